/-! the constructors -/
theorem s0_row {k : Nat} (h : k ≠ 0 ∧ k ≠ 1 ∧ k ≠ 3 ∧ k ≠ 132) : s0 k = fun _ => 0 := by
  funext j
  unfold s0
  rw [if_neg (by omega), if_neg (by omega), if_neg (by omega), if_neg (by omega)]
theorem Yw_row {b : Nat} {cI cZ cO : ClassId} {n : Nat} {E0 : Nat → va_E} {ci : Nat} {fs : List Value} {k N : Nat} (hk : n < k) (h13 : kd k = 13) (hN : ln k = N) (hz : k ≠ 0 ∧ k ≠ 1 ∧ k ≠ 3 ∧ k ≠ 132) : Yw b cI cZ cO n E0 ci fs k = .inl (cI, N, .inl (fun _ => 0)) := by
  unfold Yw
  rw [if_neg (by omega), if_neg (by omega), ent_13 b cI cZ cO s0 h13, hN, s0_row hz]
theorem Yw_rowz {b : Nat} {cI cZ cO : ClassId} {n : Nat} {E0 : Nat → va_E} {ci : Nat} {fs : List Value} {k N : Nat} (hk : n < k) (h13 : kd k = 14) (hN : ln k = N) (hz : k ≠ 0 ∧ k ≠ 1 ∧ k ≠ 3 ∧ k ≠ 132) : Yw b cI cZ cO n E0 ci fs k = .inl (cZ, N, .inl (fun _ => 0)) := by
  unfold Yw
  rw [if_neg (by omega), if_neg (by omega), ent_14 b cI cZ cO s0 h13, hN, s0_row hz]
theorem Yw_ge {b : Nat} {cI cZ cO : ClassId} {n : Nat} {E0 : Nat → va_E} {ci : Nat} {fs : List Value} {k : Nat} (hk : n < k) : ∀ j, k ≤ j → Yw b cI cZ cO n E0 ci fs j = ent b cI cZ cO s0 j := fun j hj => by
  unfold Yw
  rw [if_neg (by omega), if_neg (by omega)]
theorem Yw_n {b : Nat} {cI cZ cO : ClassId} {n : Nat} {E0 : Nat → va_E} {ci : Nat} {fs : List Value} : Yw b cI cZ cO n E0 ci fs n = .inr (ci, fs) := by
  unfold Yw
  rw [if_neg (by omega), if_pos rfl]
theorem dfX0 : ∀ j, j < 2 → defaultValue (tyX0 j) = vp_V [.int 0, .int 0] j := by
  intro j hj
  rcases (show j = 0 ∨ j = 1 by omega) with rfl | rfl <;> rfl
theorem dfX1 : ∀ j, j < 3 → defaultValue (tyX1 j) = vp_V [.int 0, .null, .null] j := by
  intro j hj
  rcases (show j = 0 ∨ j = 1 ∨ j = 2 by omega) with rfl | rfl | rfl <;> rfl
theorem dfX2 : ∀ j, j < 3 → defaultValue (tyX2 j) = vp_V [.null, .null, .null] j := by
  intro j hj
  rcases (show j = 0 ∨ j = 1 ∨ j = 2 by omega) with rfl | rfl | rfl <;> rfl
theorem dfX3 : ∀ j, j < 1 → defaultValue (tyX3 j) = vp_V [.int 0] j := by
  intro j hj
  rcases (show j = 0 by omega) with rfl <;> rfl
theorem dfX4 : ∀ j, j < 11 → defaultValue (tyX4 j) = vp_V [.int 0, .int 0, .int 0, .int 0, .int 0, .null, .null, .null, .null, .null, .null] j := by
  intro j hj
  rcases (show j = 0 ∨ j = 1 ∨ j = 2 ∨ j = 3 ∨ j = 4 ∨ j = 5 ∨ j = 6 ∨ j = 7 ∨ j = 8 ∨ j = 9 ∨ j = 10 by omega) with rfl | rfl | rfl | rfl | rfl | rfl | rfl | rfl | rfl | rfl | rfl <;> rfl
theorem dfX5 : ∀ j, j < 3 → defaultValue (tyX5 j) = vp_V [.null, .null, .null] j := by
  intro j hj
  rcases (show j = 0 ∨ j = 1 ∨ j = 2 by omega) with rfl | rfl | rfl <;> rfl
theorem dfX6 : ∀ j, j < 5 → defaultValue (tyX6 j) = vp_V [.null, .null, .null, .null, .int 0] j := by
  intro j hj
  rcases (show j = 0 ∨ j = 1 ∨ j = 2 ∨ j = 3 ∨ j = 4 by omega) with rfl | rfl | rfl | rfl | rfl <;> rfl
theorem dfX7 : ∀ j, j < 3 → defaultValue (tyX7 j) = vp_V [.int 0, .int 0, .null] j := by
  intro j hj
  rcases (show j = 0 ∨ j = 1 ∨ j = 2 by omega) with rfl | rfl | rfl <;> rfl
theorem dfX8 : ∀ j, j < 6 → defaultValue (tyX8 j) = vp_V [.null, .int 0, .int 0, .int 0, .int 0, .int 0] j := by
  intro j hj
  rcases (show j = 0 ∨ j = 1 ∨ j = 2 ∨ j = 3 ∨ j = 4 ∨ j = 5 by omega) with rfl | rfl | rfl | rfl | rfl | rfl <;> rfl
theorem dfX9 : ∀ j, j < 3 → defaultValue (tyX9 j) = vp_V [.int 0, .null, .null] j := by
  intro j hj
  rcases (show j = 0 ∨ j = 1 ∨ j = 2 by omega) with rfl | rfl | rfl <;> rfl
theorem dfX10 : ∀ j, j < 9 → defaultValue (tyX10 j) = vp_V [.int 0, .int 0, .int 0, .int 0, .int 0, .null, .null, .null, .null] j := by
  intro j hj
  rcases (show j = 0 ∨ j = 1 ∨ j = 2 ∨ j = 3 ∨ j = 4 ∨ j = 5 ∨ j = 6 ∨ j = 7 ∨ j = 8 by omega) with rfl | rfl | rfl | rfl | rfl | rfl | rfl | rfl | rfl <;> rfl
theorem dfX11 : ∀ j, j < 9 → defaultValue (tyX11 j) = vp_V [.null, .null, .null, .null, .null, .null, .null, .null, .null] j := by
  intro j hj
  rcases (show j = 0 ∨ j = 1 ∨ j = 2 ∨ j = 3 ∨ j = 4 ∨ j = 5 ∨ j = 6 ∨ j = 7 ∨ j = 8 by omega) with rfl | rfl | rfl | rfl | rfl | rfl | rfl | rfl | rfl <;> rfl
theorem dfX12 : ∀ j, j < 36 → defaultValue (tyX12 j) = vp_V [.int 0, .int 0, .int 0, .int 0, .null, .null, .null, .null, .int 0, .null, .int 0, .int 0, .int 0, .int 0, .int 0, .int 0, .int 0, .int 0, .null, .null, .null, .null, .null, .int 0, .int 0, .int 0, .null, .null, .int 0, .null, .null, .int 0, .null, .null, .null, .null] j := by
  intro j hj
  rcases (show j = 0 ∨ j = 1 ∨ j = 2 ∨ j = 3 ∨ j = 4 ∨ j = 5 ∨ j = 6 ∨ j = 7 ∨ j = 8 ∨ j = 9 ∨ j = 10 ∨ j = 11 ∨ j = 12 ∨ j = 13 ∨ j = 14 ∨ j = 15 ∨ j = 16 ∨ j = 17 ∨ j = 18 ∨ j = 19 ∨ j = 20 ∨ j = 21 ∨ j = 22 ∨ j = 23 ∨ j = 24 ∨ j = 25 ∨ j = 26 ∨ j = 27 ∨ j = 28 ∨ j = 29 ∨ j = 30 ∨ j = 31 ∨ j = 32 ∨ j = 33 ∨ j = 34 ∨ j = 35 by omega) with rfl | rfl | rfl | rfl | rfl | rfl | rfl | rfl | rfl | rfl | rfl | rfl | rfl | rfl | rfl | rfl | rfl | rfl | rfl | rfl | rfl | rfl | rfl | rfl | rfl | rfl | rfl | rfl | rfl | rfl | rfl | rfl | rfl | rfl | rfl | rfl <;> rfl
def rmX0_init : Room := { frames := 1, cells := 0, slots := 0, locals := 12 }
set_option maxRecDepth 100000 in
set_option maxHeartbeats 4000000 in
theorem kX0_init (l : Launch) (b : Nat) (D : va_G) (cI cZ cO : ClassId) : MK l yX0_init cX0_init 1 rmX0_init [.ref (b + 16)] b D cI cZ cO 16 1 0 [.int 0, .int 0] 0 0 := by
  refine metK (by decide) rfl (Nat.le_of_ble_eq_true rfl) ?_
  intro E0 p e s m below meth c ls hE C hn hX G hl
  have hx := C.1
  have hb := C.2.1
  have hl : lv_has ls 1 [(0, .ref (b + 16))] := hl
  have G : Bd b (17) D (Yw b cI cZ cO 16 E0 0 [.int 0, .int 0]) s.heap s.heap [] := G
  refine lv_aload_n hx hb dX0_init_0 rfl (lv_at hl 0 rfl) ?_
  refine n_obj C hl.1 wd_252 wd_92 wd_93 (Nat.le_of_ble_eq_true rfl) (Nat.le_of_ble_eq_true rfl) dX0_init_1 ?_
  exact n_ret C G (by rw [ent_0 b cI cZ cO s0 kd_16]; rfl) dX0_init_4
def rmX1_init : Room := { frames := 1, cells := 2, slots := 30, locals := 12 }
set_option maxRecDepth 100000 in
set_option maxHeartbeats 4000000 in
theorem kX1_init (l : Launch) (b : Nat) (D : va_G) (cI cZ cO : ClassId) : MK l yX1_init cX1_init 1 rmX1_init [.ref (b + 117)] b D cI cZ cO 117 3 1 [.int 0, .null, .null] 2 30 := by
  refine metK (by decide) rfl (Nat.le_of_ble_eq_true rfl) ?_
  intro E0 p e s m below meth c ls hE C hn hX G hl
  have hx := C.1
  have hb := C.2.1
  have hl : lv_has ls 1 [(0, .ref (b + 117))] := hl
  have G : Bd b (118) D (Yw b cI cZ cO 117 E0 1 [.int 0, .null, .null]) s.heap s.heap [] := G
  refine lv_aload_n hx hb dX1_init_0 rfl (lv_at hl 0 rfl) ?_
  refine n_obj C hl.1 wd_353 wd_92 wd_93 (Nat.le_of_ble_eq_true rfl) (Nat.le_of_ble_eq_true rfl) dX1_init_1 ?_
  refine lv_aload_n hx hb dX1_init_4 rfl (lv_at hl 0 rfl) ?_
  refine lv_bipush (v := 15) hx hb dX1_init_5 (by decide) ?_
  refine n_newi C G wd_122 (N := 15) (by decide) (by decide) (by omega) (Yw_row (by omega) kd_118 ln_118 (by omega)) (Nat.le_of_ble_eq_true rfl) (Nat.le_of_ble_eq_true rfl) dX1_init_7 (fun H G => ?_)
  have G : Bd b (119) D (Yw b cI cZ cO 117 E0 1 [.int 0, .null, .null]) s.heap H [] := G
  refine n_putF (fs' := [.int 0, .ref (b + 118), .null]) (ty := .array .int) C hn G (by omega) rfl inl_X1 tyX1 tyX1_ok nmX1 1 (by decide) wd_356 rfl rfl rfl (by decide +kernel) rfl rfl (Nat.le_of_ble_eq_true rfl) rfl dX1_init_9 (fun H locs G => ?_)
  have G : Bd b (119) D (Yw b cI cZ cO 117 E0 1 [.int 0, .ref (b + 118), .null]) s.heap H locs := G
  refine lv_aload_n hx hb dX1_init_12 rfl (lv_at hl 0 rfl) ?_
  refine lv_bipush (v := 15) hx hb dX1_init_13 (by decide) ?_
  refine n_newi C G wd_122 (N := 15) (by decide) (by decide) (by omega) (Yw_row (by omega) kd_119 ln_119 (by omega)) (Nat.le_of_ble_eq_true rfl) (Nat.le_of_ble_eq_true rfl) dX1_init_15 (fun H G => ?_)
  have G : Bd b (120) D (Yw b cI cZ cO 117 E0 1 [.int 0, .ref (b + 118), .null]) s.heap H locs := G
  refine n_putF (fs' := [.int 0, .ref (b + 118), .ref (b + 119)]) (ty := .array .int) C hn G (by omega) rfl inl_X1 tyX1 tyX1_ok nmX1 2 (by decide) wd_357 rfl rfl rfl (by decide +kernel) rfl rfl (Nat.le_of_ble_eq_true rfl) rfl dX1_init_17 (fun H locs G => ?_)
  have G : Bd b (120) D (Yw b cI cZ cO 117 E0 1 [.int 0, .ref (b + 118), .ref (b + 119)]) s.heap H locs := G
  exact n_ret C G (by rw [ent_1 b cI cZ cO s0 kd_117]; rfl) dX1_init_20
def rmX3_init : Room := { frames := 1, cells := 0, slots := 0, locals := 12 }
set_option maxRecDepth 100000 in
set_option maxHeartbeats 4000000 in
theorem kX3_init (l : Launch) (b : Nat) (D : va_G) (cI cZ cO : ClassId) : MK l yX3_init cX3_init 1 rmX3_init [.ref (b + 113)] b D cI cZ cO 113 1 3 [.int 0] 0 0 := by
  refine metK (by decide) rfl (Nat.le_of_ble_eq_true rfl) ?_
  intro E0 p e s m below meth c ls hE C hn hX G hl
  have hx := C.1
  have hb := C.2.1
  have hl : lv_has ls 1 [(0, .ref (b + 113))] := hl
  have G : Bd b (114) D (Yw b cI cZ cO 113 E0 3 [.int 0]) s.heap s.heap [] := G
  refine lv_aload_n hx hb dX3_init_0 rfl (lv_at hl 0 rfl) ?_
  refine n_obj C hl.1 wd_325 wd_92 wd_93 (Nat.le_of_ble_eq_true rfl) (Nat.le_of_ble_eq_true rfl) dX3_init_1 ?_
  exact n_ret C G (by rw [ent_3 b cI cZ cO s0 kd_113]; rfl) dX3_init_4
def rmX4_init : Room := { frames := 1, cells := 6, slots := 36, locals := 12 }
set_option maxRecDepth 100000 in
set_option maxHeartbeats 4000000 in
theorem kX4_init (l : Launch) (b : Nat) (D : va_G) (cI cZ cO : ClassId) {n : Nat} (hk : kd n = 4) (hz : 4 ≤ n ∧ n ≤ 125) : MK l yX4_init cX4_init 1 rmX4_init [.ref (b + n)] b D cI cZ cO n 7 4 [.int 0, .int 0, .int 0, .int 0, .int 0, .null, .null, .null, .null, .null, .null] 6 36 := by
  refine metK (by decide) rfl (Nat.le_of_ble_eq_true rfl) ?_
  intro E0 p e s m below meth c ls hE C hn hX G hl
  have hx := C.1
  have hb := C.2.1
  have hl : lv_has ls 1 [(0, .ref (b + n))] := hl
  have G : Bd b (n + 1) D (Yw b cI cZ cO n E0 4 [.int 0, .int 0, .int 0, .int 0, .int 0, .null, .null, .null, .null, .null, .null]) s.heap s.heap [] := G
  refine lv_aload_n hx hb dX4_init_0 rfl (lv_at hl 0 rfl) ?_
  refine n_obj C hl.1 wd_134 wd_92 wd_93 (Nat.le_of_ble_eq_true rfl) (Nat.le_of_ble_eq_true rfl) dX4_init_1 ?_
  refine lv_aload_n hx hb dX4_init_4 rfl (lv_at hl 0 rfl) ?_
  refine lv_bipush (v := 7) hx hb dX4_init_5 (by decide) ?_
  refine n_newi C G wd_122 (N := 7) (by decide) (by decide) (by omega) (Yw_row (by omega) (kH1 hk) (lH1 hk) (by omega)) (Nat.le_of_ble_eq_true rfl) (Nat.le_of_ble_eq_true rfl) dX4_init_7 (fun H G => ?_)
  have G : Bd b (n + 2) D (Yw b cI cZ cO n E0 4 [.int 0, .int 0, .int 0, .int 0, .int 0, .null, .null, .null, .null, .null, .null]) s.heap H [] := G
  refine n_putF (fs' := [.int 0, .int 0, .int 0, .int 0, .int 0, .ref (b + (n + 1)), .null, .null, .null, .null, .null]) (ty := .array .int) C hn G (by omega) rfl inl_X4 tyX4 tyX4_ok nmX4 5 (by decide) wd_157 rfl rfl rfl (by decide +kernel) rfl rfl (Nat.le_of_ble_eq_true rfl) rfl dX4_init_9 (fun H locs G => ?_)
  have G : Bd b (n + 2) D (Yw b cI cZ cO n E0 4 [.int 0, .int 0, .int 0, .int 0, .int 0, .ref (b + (n + 1)), .null, .null, .null, .null, .null]) s.heap H locs := G
  refine lv_aload_n hx hb dX4_init_12 rfl (lv_at hl 0 rfl) ?_
  refine lv_bipush (v := 7) hx hb dX4_init_13 (by decide) ?_
  refine n_newi C G wd_122 (N := 7) (by decide) (by decide) (by omega) (Yw_row (by omega) (kH2 hk) (lH2 hk) (by omega)) (Nat.le_of_ble_eq_true rfl) (Nat.le_of_ble_eq_true rfl) dX4_init_15 (fun H G => ?_)
  have G : Bd b (n + 3) D (Yw b cI cZ cO n E0 4 [.int 0, .int 0, .int 0, .int 0, .int 0, .ref (b + (n + 1)), .null, .null, .null, .null, .null]) s.heap H locs := G
  refine n_putF (fs' := [.int 0, .int 0, .int 0, .int 0, .int 0, .ref (b + (n + 1)), .ref (b + (n + 2)), .null, .null, .null, .null]) (ty := .array .int) C hn G (by omega) rfl inl_X4 tyX4 tyX4_ok nmX4 6 (by decide) wd_160 rfl rfl rfl (by decide +kernel) rfl rfl (Nat.le_of_ble_eq_true rfl) rfl dX4_init_17 (fun H locs G => ?_)
  have G : Bd b (n + 3) D (Yw b cI cZ cO n E0 4 [.int 0, .int 0, .int 0, .int 0, .int 0, .ref (b + (n + 1)), .ref (b + (n + 2)), .null, .null, .null, .null]) s.heap H locs := G
  refine lv_aload_n hx hb dX4_init_20 rfl (lv_at hl 0 rfl) ?_
  refine lv_bipush (v := 7) hx hb dX4_init_21 (by decide) ?_
  refine n_newi C G wd_122 (N := 7) (by decide) (by decide) (by omega) (Yw_row (by omega) (kH3 hk) (lH3 hk) (by omega)) (Nat.le_of_ble_eq_true rfl) (Nat.le_of_ble_eq_true rfl) dX4_init_23 (fun H G => ?_)
  have G : Bd b (n + 4) D (Yw b cI cZ cO n E0 4 [.int 0, .int 0, .int 0, .int 0, .int 0, .ref (b + (n + 1)), .ref (b + (n + 2)), .null, .null, .null, .null]) s.heap H locs := G
  refine n_putF (fs' := [.int 0, .int 0, .int 0, .int 0, .int 0, .ref (b + (n + 1)), .ref (b + (n + 2)), .ref (b + (n + 3)), .null, .null, .null]) (ty := .array .int) C hn G (by omega) rfl inl_X4 tyX4 tyX4_ok nmX4 7 (by decide) wd_163 rfl rfl rfl (by decide +kernel) rfl rfl (Nat.le_of_ble_eq_true rfl) rfl dX4_init_25 (fun H locs G => ?_)
  have G : Bd b (n + 4) D (Yw b cI cZ cO n E0 4 [.int 0, .int 0, .int 0, .int 0, .int 0, .ref (b + (n + 1)), .ref (b + (n + 2)), .ref (b + (n + 3)), .null, .null, .null]) s.heap H locs := G
  refine lv_aload_n hx hb dX4_init_28 rfl (lv_at hl 0 rfl) ?_
  refine lv_bipush (v := 7) hx hb dX4_init_29 (by decide) ?_
  refine n_newi C G wd_122 (N := 7) (by decide) (by decide) (by omega) (Yw_row (by omega) (kH4 hk) (lH4 hk) (by omega)) (Nat.le_of_ble_eq_true rfl) (Nat.le_of_ble_eq_true rfl) dX4_init_31 (fun H G => ?_)
  have G : Bd b (n + 5) D (Yw b cI cZ cO n E0 4 [.int 0, .int 0, .int 0, .int 0, .int 0, .ref (b + (n + 1)), .ref (b + (n + 2)), .ref (b + (n + 3)), .null, .null, .null]) s.heap H locs := G
  refine n_putF (fs' := [.int 0, .int 0, .int 0, .int 0, .int 0, .ref (b + (n + 1)), .ref (b + (n + 2)), .ref (b + (n + 3)), .ref (b + (n + 4)), .null, .null]) (ty := .array .int) C hn G (by omega) rfl inl_X4 tyX4 tyX4_ok nmX4 8 (by decide) wd_165 rfl rfl rfl (by decide +kernel) rfl rfl (Nat.le_of_ble_eq_true rfl) rfl dX4_init_33 (fun H locs G => ?_)
  have G : Bd b (n + 5) D (Yw b cI cZ cO n E0 4 [.int 0, .int 0, .int 0, .int 0, .int 0, .ref (b + (n + 1)), .ref (b + (n + 2)), .ref (b + (n + 3)), .ref (b + (n + 4)), .null, .null]) s.heap H locs := G
  refine lv_aload_n hx hb dX4_init_36 rfl (lv_at hl 0 rfl) ?_
  refine lv_iconst (v := 4) hx hb dX4_init_37 (by decide) ?_
  refine n_newi C G wd_122 (N := 4) (by decide) (by decide) (by omega) (Yw_row (by omega) (kH5 hk) (lH5 hk) (by omega)) (Nat.le_of_ble_eq_true rfl) (Nat.le_of_ble_eq_true rfl) dX4_init_38 (fun H G => ?_)
  have G : Bd b (n + 6) D (Yw b cI cZ cO n E0 4 [.int 0, .int 0, .int 0, .int 0, .int 0, .ref (b + (n + 1)), .ref (b + (n + 2)), .ref (b + (n + 3)), .ref (b + (n + 4)), .null, .null]) s.heap H locs := G
  refine n_putF (fs' := [.int 0, .int 0, .int 0, .int 0, .int 0, .ref (b + (n + 1)), .ref (b + (n + 2)), .ref (b + (n + 3)), .ref (b + (n + 4)), .ref (b + (n + 5)), .null]) (ty := .array .int) C hn G (by omega) rfl inl_X4 tyX4 tyX4_ok nmX4 9 (by decide) wd_167 rfl rfl rfl (by decide +kernel) rfl rfl (Nat.le_of_ble_eq_true rfl) rfl dX4_init_40 (fun H locs G => ?_)
  have G : Bd b (n + 6) D (Yw b cI cZ cO n E0 4 [.int 0, .int 0, .int 0, .int 0, .int 0, .ref (b + (n + 1)), .ref (b + (n + 2)), .ref (b + (n + 3)), .ref (b + (n + 4)), .ref (b + (n + 5)), .null]) s.heap H locs := G
  refine lv_aload_n hx hb dX4_init_43 rfl (lv_at hl 0 rfl) ?_
  refine lv_iconst (v := 4) hx hb dX4_init_44 (by decide) ?_
  refine n_newi C G wd_122 (N := 4) (by decide) (by decide) (by omega) (Yw_row (by omega) (kH6 hk) (lH6 hk) (by omega)) (Nat.le_of_ble_eq_true rfl) (Nat.le_of_ble_eq_true rfl) dX4_init_45 (fun H G => ?_)
  have G : Bd b (n + 7) D (Yw b cI cZ cO n E0 4 [.int 0, .int 0, .int 0, .int 0, .int 0, .ref (b + (n + 1)), .ref (b + (n + 2)), .ref (b + (n + 3)), .ref (b + (n + 4)), .ref (b + (n + 5)), .null]) s.heap H locs := G
  refine n_putF (fs' := [.int 0, .int 0, .int 0, .int 0, .int 0, .ref (b + (n + 1)), .ref (b + (n + 2)), .ref (b + (n + 3)), .ref (b + (n + 4)), .ref (b + (n + 5)), .ref (b + (n + 6))]) (ty := .array .int) C hn G (by omega) rfl inl_X4 tyX4 tyX4_ok nmX4 10 (by decide) wd_169 rfl rfl rfl (by decide +kernel) rfl rfl (Nat.le_of_ble_eq_true rfl) rfl dX4_init_47 (fun H locs G => ?_)
  have G : Bd b (n + 7) D (Yw b cI cZ cO n E0 4 [.int 0, .int 0, .int 0, .int 0, .int 0, .ref (b + (n + 1)), .ref (b + (n + 2)), .ref (b + (n + 3)), .ref (b + (n + 4)), .ref (b + (n + 5)), .ref (b + (n + 6))]) s.heap H locs := G
  exact n_ret C G (by rw [ent_4 b cI cZ cO s0 hk, s0_row (by omega)]) dX4_init_50
def rmX8_init : Room := { frames := 1, cells := 1, slots := 240, locals := 12 }
set_option maxRecDepth 100000 in
set_option maxHeartbeats 4000000 in
theorem kX8_init (l : Launch) (b : Nat) (D : va_G) (cI cZ cO : ClassId) : MK l yX8_init cX8_init 1 rmX8_init [.ref (b + 1)] b D cI cZ cO 1 2 8 [.null, .int 0, .int 0, .int 0, .int 0, .int 0] 1 240 := by
  refine metK (by decide) rfl (Nat.le_of_ble_eq_true rfl) ?_
  intro E0 p e s m below meth c ls hE C hn hX G hl
  have hx := C.1
  have hb := C.2.1
  have hl : lv_has ls 1 [(0, .ref (b + 1))] := hl
  have G : Bd b (2) D (Yw b cI cZ cO 1 E0 8 [.null, .int 0, .int 0, .int 0, .int 0, .int 0]) s.heap s.heap [] := G
  refine lv_aload_n hx hb dX8_init_0 rfl (lv_at hl 0 rfl) ?_
  refine n_obj C hl.1 wd_99 wd_92 wd_93 (Nat.le_of_ble_eq_true rfl) (Nat.le_of_ble_eq_true rfl) dX8_init_1 ?_
  refine lv_aload_n hx hb dX8_init_4 rfl (lv_at hl 0 rfl) ?_
  refine lv_sipush (v := 240) hx hb dX8_init_5 (by decide) ?_
  refine n_newi C G wd_122 (N := 240) (by decide) (by decide) (by omega) (Yw_row (by omega) kd_2 ln_2 (by omega)) (Nat.le_of_ble_eq_true rfl) (Nat.le_of_ble_eq_true rfl) dX8_init_8 (fun H G => ?_)
  have G : Bd b (3) D (Yw b cI cZ cO 1 E0 8 [.null, .int 0, .int 0, .int 0, .int 0, .int 0]) s.heap H [] := G
  refine n_putF (fs' := [.ref (b + 2), .int 0, .int 0, .int 0, .int 0, .int 0]) (ty := .array .int) C hn G (by omega) rfl inl_X8 tyX8 tyX8_ok nmX8 0 (by decide) wd_100 rfl rfl rfl (by decide +kernel) rfl rfl (Nat.le_of_ble_eq_true rfl) rfl dX8_init_10 (fun H locs G => ?_)
  have G : Bd b (3) D (Yw b cI cZ cO 1 E0 8 [.ref (b + 2), .int 0, .int 0, .int 0, .int 0, .int 0]) s.heap H locs := G
  refine lv_aload_n hx hb dX8_init_13 rfl (lv_at hl 0 rfl) ?_
  refine lv_iconst (v := (-1)) hx hb dX8_init_14 (by decide) ?_
  refine n_put (fs' := [.ref (b + 2), .int 0, .int 0, .int (-1), .int 0, .int 0]) (ty := .int) C G (by omega) rfl inl_X8 tyX8 tyX8_ok nmX8 3 (by decide) wd_105 rfl rfl (by decide +kernel) rfl rfl (Nat.le_of_ble_eq_true rfl) rfl dX8_init_15 (fun H locs G => ?_)
  have G : Bd b (3) D (Yw b cI cZ cO 1 E0 8 [.ref (b + 2), .int 0, .int 0, .int (-1), .int 0, .int 0]) s.heap H locs := G
  exact n_ret C G (by rw [ent_8 b cI cZ cO s0 kd_1]; rfl) dX8_init_18
def rmX9_init : Room := { frames := 1, cells := 2, slots := 30, locals := 12 }
set_option maxRecDepth 100000 in
set_option maxHeartbeats 4000000 in
theorem kX9_init (l : Launch) (b : Nat) (D : va_G) (cI cZ cO : ClassId) : MK l yX9_init cX9_init 1 rmX9_init [.ref (b + 114)] b D cI cZ cO 114 3 9 [.int 0, .null, .null] 2 30 := by
  refine metK (by decide) rfl (Nat.le_of_ble_eq_true rfl) ?_
  intro E0 p e s m below meth c ls hE C hn hX G hl
  have hx := C.1
  have hb := C.2.1
  have hl : lv_has ls 1 [(0, .ref (b + 114))] := hl
  have G : Bd b (115) D (Yw b cI cZ cO 114 E0 9 [.int 0, .null, .null]) s.heap s.heap [] := G
  refine lv_aload_n hx hb dX9_init_0 rfl (lv_at hl 0 rfl) ?_
  refine n_obj C hl.1 wd_336 wd_92 wd_93 (Nat.le_of_ble_eq_true rfl) (Nat.le_of_ble_eq_true rfl) dX9_init_1 ?_
  refine lv_aload_n hx hb dX9_init_4 rfl (lv_at hl 0 rfl) ?_
  refine lv_bipush (v := 6) hx hb dX9_init_5 (by decide) ?_
  refine n_newi C G wd_122 (N := 6) (by decide) (by decide) (by omega) (Yw_row (by omega) kd_115 ln_115 (by omega)) (Nat.le_of_ble_eq_true rfl) (Nat.le_of_ble_eq_true rfl) dX9_init_7 (fun H G => ?_)
  have G : Bd b (116) D (Yw b cI cZ cO 114 E0 9 [.int 0, .null, .null]) s.heap H [] := G
  refine n_putF (fs' := [.int 0, .ref (b + 115), .null]) (ty := .array .int) C hn G (by omega) rfl inl_X9 tyX9 tyX9_ok nmX9 1 (by decide) wd_339 rfl rfl rfl (by decide +kernel) rfl rfl (Nat.le_of_ble_eq_true rfl) rfl dX9_init_9 (fun H locs G => ?_)
  have G : Bd b (116) D (Yw b cI cZ cO 114 E0 9 [.int 0, .ref (b + 115), .null]) s.heap H locs := G
  refine lv_aload_n hx hb dX9_init_12 rfl (lv_at hl 0 rfl) ?_
  refine lv_bipush (v := 24) hx hb dX9_init_13 (by decide) ?_
  refine n_newi C G wd_122 (N := 24) (by decide) (by decide) (by omega) (Yw_row (by omega) kd_116 ln_116 (by omega)) (Nat.le_of_ble_eq_true rfl) (Nat.le_of_ble_eq_true rfl) dX9_init_15 (fun H G => ?_)
  have G : Bd b (117) D (Yw b cI cZ cO 114 E0 9 [.int 0, .ref (b + 115), .null]) s.heap H locs := G
  refine n_putF (fs' := [.int 0, .ref (b + 115), .ref (b + 116)]) (ty := .array .int) C hn G (by omega) rfl inl_X9 tyX9 tyX9_ok nmX9 2 (by decide) wd_340 rfl rfl rfl (by decide +kernel) rfl rfl (Nat.le_of_ble_eq_true rfl) rfl dX9_init_17 (fun H locs G => ?_)
  have G : Bd b (117) D (Yw b cI cZ cO 114 E0 9 [.int 0, .ref (b + 115), .ref (b + 116)]) s.heap H locs := G
  exact n_ret C G (by rw [ent_9 b cI cZ cO s0 kd_114]; rfl) dX9_init_20
def rmX10_init : Room := { frames := 1, cells := 4, slots := 25, locals := 12 }
set_option maxRecDepth 100000 in
set_option maxHeartbeats 4000000 in
theorem kX10_init (l : Launch) (b : Nat) (D : va_G) (cI cZ cO : ClassId) {n : Nat} (hk : kd n = 10) (hz : 11 ≤ n ∧ n ≤ 112) : MK l yX10_init cX10_init 1 rmX10_init [.ref (b + n)] b D cI cZ cO n 5 10 [.int 0, .int 0, .int 0, .int 0, .int 0, .null, .null, .null, .null] 4 25 := by
  refine metK (by decide) rfl (Nat.le_of_ble_eq_true rfl) ?_
  intro E0 p e s m below meth c ls hE C hn hX G hl
  have hx := C.1
  have hb := C.2.1
  have hl : lv_has ls 1 [(0, .ref (b + n))] := hl
  have G : Bd b (n + 1) D (Yw b cI cZ cO n E0 10 [.int 0, .int 0, .int 0, .int 0, .int 0, .null, .null, .null, .null]) s.heap s.heap [] := G
  refine lv_aload_n hx hb dX10_init_0 rfl (lv_at hl 0 rfl) ?_
  refine n_obj C hl.1 wd_200 wd_92 wd_93 (Nat.le_of_ble_eq_true rfl) (Nat.le_of_ble_eq_true rfl) dX10_init_1 ?_
  refine lv_aload_n hx hb dX10_init_4 rfl (lv_at hl 0 rfl) ?_
  refine lv_bipush (v := 7) hx hb dX10_init_5 (by decide) ?_
  refine n_newi C G wd_122 (N := 7) (by decide) (by decide) (by omega) (Yw_row (by omega) (kS1 hk) (lS1 hk) (by omega)) (Nat.le_of_ble_eq_true rfl) (Nat.le_of_ble_eq_true rfl) dX10_init_7 (fun H G => ?_)
  have G : Bd b (n + 2) D (Yw b cI cZ cO n E0 10 [.int 0, .int 0, .int 0, .int 0, .int 0, .null, .null, .null, .null]) s.heap H [] := G
  refine n_putF (fs' := [.int 0, .int 0, .int 0, .int 0, .int 0, .ref (b + (n + 1)), .null, .null, .null]) (ty := .array .int) C hn G (by omega) rfl inl_X10 tyX10 tyX10_ok nmX10 5 (by decide) wd_215 rfl rfl rfl (by decide +kernel) rfl rfl (Nat.le_of_ble_eq_true rfl) rfl dX10_init_9 (fun H locs G => ?_)
  have G : Bd b (n + 2) D (Yw b cI cZ cO n E0 10 [.int 0, .int 0, .int 0, .int 0, .int 0, .ref (b + (n + 1)), .null, .null, .null]) s.heap H locs := G
  refine lv_aload_n hx hb dX10_init_12 rfl (lv_at hl 0 rfl) ?_
  refine lv_bipush (v := 7) hx hb dX10_init_13 (by decide) ?_
  refine n_newi C G wd_122 (N := 7) (by decide) (by decide) (by omega) (Yw_row (by omega) (kS2 hk) (lS2 hk) (by omega)) (Nat.le_of_ble_eq_true rfl) (Nat.le_of_ble_eq_true rfl) dX10_init_15 (fun H G => ?_)
  have G : Bd b (n + 3) D (Yw b cI cZ cO n E0 10 [.int 0, .int 0, .int 0, .int 0, .int 0, .ref (b + (n + 1)), .null, .null, .null]) s.heap H locs := G
  refine n_putF (fs' := [.int 0, .int 0, .int 0, .int 0, .int 0, .ref (b + (n + 1)), .ref (b + (n + 2)), .null, .null]) (ty := .array .int) C hn G (by omega) rfl inl_X10 tyX10 tyX10_ok nmX10 6 (by decide) wd_219 rfl rfl rfl (by decide +kernel) rfl rfl (Nat.le_of_ble_eq_true rfl) rfl dX10_init_17 (fun H locs G => ?_)
  have G : Bd b (n + 3) D (Yw b cI cZ cO n E0 10 [.int 0, .int 0, .int 0, .int 0, .int 0, .ref (b + (n + 1)), .ref (b + (n + 2)), .null, .null]) s.heap H locs := G
  refine lv_aload_n hx hb dX10_init_20 rfl (lv_at hl 0 rfl) ?_
  refine lv_bipush (v := 7) hx hb dX10_init_21 (by decide) ?_
  refine n_newi C G wd_122 (N := 7) (by decide) (by decide) (by omega) (Yw_row (by omega) (kS3 hk) (lS3 hk) (by omega)) (Nat.le_of_ble_eq_true rfl) (Nat.le_of_ble_eq_true rfl) dX10_init_23 (fun H G => ?_)
  have G : Bd b (n + 4) D (Yw b cI cZ cO n E0 10 [.int 0, .int 0, .int 0, .int 0, .int 0, .ref (b + (n + 1)), .ref (b + (n + 2)), .null, .null]) s.heap H locs := G
  refine n_putF (fs' := [.int 0, .int 0, .int 0, .int 0, .int 0, .ref (b + (n + 1)), .ref (b + (n + 2)), .ref (b + (n + 3)), .null]) (ty := .array .int) C hn G (by omega) rfl inl_X10 tyX10 tyX10_ok nmX10 7 (by decide) wd_222 rfl rfl rfl (by decide +kernel) rfl rfl (Nat.le_of_ble_eq_true rfl) rfl dX10_init_25 (fun H locs G => ?_)
  have G : Bd b (n + 4) D (Yw b cI cZ cO n E0 10 [.int 0, .int 0, .int 0, .int 0, .int 0, .ref (b + (n + 1)), .ref (b + (n + 2)), .ref (b + (n + 3)), .null]) s.heap H locs := G
  refine lv_aload_n hx hb dX10_init_28 rfl (lv_at hl 0 rfl) ?_
  refine lv_iconst (v := 4) hx hb dX10_init_29 (by decide) ?_
  refine n_newi C G wd_122 (N := 4) (by decide) (by decide) (by omega) (Yw_row (by omega) (kS4 hk) (lS4 hk) (by omega)) (Nat.le_of_ble_eq_true rfl) (Nat.le_of_ble_eq_true rfl) dX10_init_30 (fun H G => ?_)
  have G : Bd b (n + 5) D (Yw b cI cZ cO n E0 10 [.int 0, .int 0, .int 0, .int 0, .int 0, .ref (b + (n + 1)), .ref (b + (n + 2)), .ref (b + (n + 3)), .null]) s.heap H locs := G
  refine n_putF (fs' := [.int 0, .int 0, .int 0, .int 0, .int 0, .ref (b + (n + 1)), .ref (b + (n + 2)), .ref (b + (n + 3)), .ref (b + (n + 4))]) (ty := .array .int) C hn G (by omega) rfl inl_X10 tyX10 tyX10_ok nmX10 8 (by decide) wd_225 rfl rfl rfl (by decide +kernel) rfl rfl (Nat.le_of_ble_eq_true rfl) rfl dX10_init_32 (fun H locs G => ?_)
  have G : Bd b (n + 5) D (Yw b cI cZ cO n E0 10 [.int 0, .int 0, .int 0, .int 0, .int 0, .ref (b + (n + 1)), .ref (b + (n + 2)), .ref (b + (n + 3)), .ref (b + (n + 4))]) s.heap H locs := G
  exact n_ret C G (by rw [ent_10 b cI cZ cO s0 hk, s0_row (by omega)]) dX10_init_35
def rmX6_init : Room := { frames := 1, cells := 4, slots := 1087, locals := 12 }
set_option maxRecDepth 100000 in
set_option maxHeartbeats 4000000 in
theorem kX6_init (l : Launch) (b : Nat) (D : va_G) (cI cZ cO : ClassId) : MK l yX6_init cX6_init 1 rmX6_init [.ref (b + 120)] b D cI cZ cO 120 5 6 [.null, .null, .null, .null, .int 0] 4 1087 := by
  refine metK (by decide) rfl (Nat.le_of_ble_eq_true rfl) ?_
  intro E0 p e s m below meth c ls hE C hn hX G hl
  have hx := C.1
  have hb := C.2.1
  have hl : lv_has ls 1 [(0, .ref (b + 120))] := hl
  have G : Bd b (121) D (Yw b cI cZ cO 120 E0 6 [.null, .null, .null, .null, .int 0]) s.heap s.heap [] := G
  refine lv_aload_n hx hb dX6_init_0 rfl (lv_at hl 0 rfl) ?_
  refine n_obj C hl.1 wd_370 wd_92 wd_93 (Nat.le_of_ble_eq_true rfl) (Nat.le_of_ble_eq_true rfl) dX6_init_1 ?_
  refine lv_aload_n hx hb dX6_init_4 rfl (lv_at hl 0 rfl) ?_
  refine lv_bipush (v := 7) hx hb dX6_init_5 (by decide) ?_
  refine n_newi C G wd_122 (N := 7) (by decide) (by decide) (by omega) (Yw_row (by omega) kd_121 ln_121 (by omega)) (Nat.le_of_ble_eq_true rfl) (Nat.le_of_ble_eq_true rfl) dX6_init_7 (fun H G => ?_)
  have G : Bd b (122) D (Yw b cI cZ cO 120 E0 6 [.null, .null, .null, .null, .int 0]) s.heap H [] := G
  refine n_putF (fs' := [.ref (b + 121), .null, .null, .null, .int 0]) (ty := .array .int) C hn G (by omega) rfl inl_X6 tyX6 tyX6_ok nmX6 0 (by decide) wd_371 rfl rfl rfl (by decide +kernel) rfl rfl (Nat.le_of_ble_eq_true rfl) rfl dX6_init_9 (fun H locs G => ?_)
  have G : Bd b (122) D (Yw b cI cZ cO 120 E0 6 [.ref (b + 121), .null, .null, .null, .int 0]) s.heap H locs := G
  refine lv_aload_n hx hb dX6_init_12 rfl (lv_at hl 0 rfl) ?_
  refine lv_bipush (v := 7) hx hb dX6_init_13 (by decide) ?_
  refine n_newi C G wd_122 (N := 7) (by decide) (by decide) (by omega) (Yw_row (by omega) kd_122 ln_122 (by omega)) (Nat.le_of_ble_eq_true rfl) (Nat.le_of_ble_eq_true rfl) dX6_init_15 (fun H G => ?_)
  have G : Bd b (123) D (Yw b cI cZ cO 120 E0 6 [.ref (b + 121), .null, .null, .null, .int 0]) s.heap H locs := G
  refine n_putF (fs' := [.ref (b + 121), .ref (b + 122), .null, .null, .int 0]) (ty := .array .int) C hn G (by omega) rfl inl_X6 tyX6 tyX6_ok nmX6 1 (by decide) wd_373 rfl rfl rfl (by decide +kernel) rfl rfl (Nat.le_of_ble_eq_true rfl) rfl dX6_init_17 (fun H locs G => ?_)
  have G : Bd b (123) D (Yw b cI cZ cO 120 E0 6 [.ref (b + 121), .ref (b + 122), .null, .null, .int 0]) s.heap H locs := G
  refine lv_aload_n hx hb dX6_init_20 rfl (lv_at hl 0 rfl) ?_
  refine lv_bipush (v := 49) hx hb dX6_init_21 (by decide) ?_
  refine n_newi C G wd_122 (N := 49) (by decide) (by decide) (by omega) (Yw_row (by omega) kd_123 ln_123 (by omega)) (Nat.le_of_ble_eq_true rfl) (Nat.le_of_ble_eq_true rfl) dX6_init_23 (fun H G => ?_)
  have G : Bd b (124) D (Yw b cI cZ cO 120 E0 6 [.ref (b + 121), .ref (b + 122), .null, .null, .int 0]) s.heap H locs := G
  refine n_putF (fs' := [.ref (b + 121), .ref (b + 122), .ref (b + 123), .null, .int 0]) (ty := .array .int) C hn G (by omega) rfl inl_X6 tyX6 tyX6_ok nmX6 2 (by decide) wd_374 rfl rfl rfl (by decide +kernel) rfl rfl (Nat.le_of_ble_eq_true rfl) rfl dX6_init_25 (fun H locs G => ?_)
  have G : Bd b (124) D (Yw b cI cZ cO 120 E0 6 [.ref (b + 121), .ref (b + 122), .ref (b + 123), .null, .int 0]) s.heap H locs := G
  refine lv_aload_n hx hb dX6_init_28 rfl (lv_at hl 0 rfl) ?_
  refine lv_sipush (v := 1024) hx hb dX6_init_29 (by decide) ?_
  refine n_newi C G wd_122 (N := 1024) (by decide) (by decide) (by omega) (Yw_row (by omega) kd_124 ln_124 (by omega)) (Nat.le_of_ble_eq_true rfl) (Nat.le_of_ble_eq_true rfl) dX6_init_32 (fun H G => ?_)
  have G : Bd b (125) D (Yw b cI cZ cO 120 E0 6 [.ref (b + 121), .ref (b + 122), .ref (b + 123), .null, .int 0]) s.heap H locs := G
  refine n_putF (fs' := [.ref (b + 121), .ref (b + 122), .ref (b + 123), .ref (b + 124), .int 0]) (ty := .array .int) C hn G (by omega) rfl inl_X6 tyX6 tyX6_ok nmX6 3 (by decide) wd_375 rfl rfl rfl (by decide +kernel) rfl rfl (Nat.le_of_ble_eq_true rfl) rfl dX6_init_34 (fun H locs G => ?_)
  have G : Bd b (125) D (Yw b cI cZ cO 120 E0 6 [.ref (b + 121), .ref (b + 122), .ref (b + 123), .ref (b + 124), .int 0]) s.heap H locs := G
  exact n_ret C G (by rw [ent_6 b cI cZ cO s0 kd_120]; rfl) dX6_init_37
