/-! the two constructors with a loop -/
def rmX7_init : Room := { frames := 2, cells := 81, slots := 560, locals := 32 }
def rmX5_init : Room := { frames := 2, cells := 13, slots := 74, locals := 32 }
/-- a row of states of which i are made; the first lies at q + off -/
def Rw (b : Nat) (cO : ClassId) (q off N i : Nat) : va_E := .inl (cO, N, .inr (.inr (.inr (.inr (fun j => if j < i then some (b + (q + off + 5 * j)) else none)))))
theorem Rw_step {b : Nat} {cO : ClassId} {Y : Nat → va_E} {q off N i : Nat} (hi : i < 100) : ∀ j, va_up (va_up Y q (Rw b cO q off N i)) q (.inl (cO, N, .inr (.inr (.inr (.inr (va_up (fun j => if j < i then some (b + (q + off + 5 * j)) else none) (nI i).toNatClampNeg (some (b + (q + off + 5 * i))))))))) j = va_up Y q (Rw b cO q off N (i + 1)) j := by
  intro j
  by_cases c : j = q
  · subst c
    rw [va_up_self, va_up_self, cl_nI (by omega)]
    unfold Rw
    have ef : va_up (fun k => if k < i then some (b + (j + off + 5 * k)) else none) i (some (b + (j + off + 5 * i))) = fun k => if k < i + 1 then some (b + (j + off + 5 * k)) else none := by
      funext k
      unfold va_up
      by_cases h : k = i
      · rw [if_pos h, if_pos (by omega), h]
      · rw [if_neg h]
        dsimp only
        by_cases h2 : k < i
        · rw [if_pos h2, if_pos (by omega)]
        · rw [if_neg h2, if_neg (by omega)]
    rw [ef]
  · rw [va_up_ne _ _ c, va_up_ne _ _ c, va_up_ne _ _ c]
section Two
variable {p : Program} {l : Launch} {e : Env} {s : State} {m : MethodId} {args : Array Value} {below : List Frame} {meth : Method} {c : Code} {D : va_G} {cI cZ cO : ClassId} {b : Nat} {E0 : Nat → va_E}
set_option maxRecDepth 100000 in
set_option maxHeartbeats 4000000 in
theorem X7_loop (C : Cx p s m args meth c cX7_init RX7 2 none D cI cZ cO) (hX : Nx s) : ∀ (d i : Nat) (H : Heap) (locs : List Loc) (ls : Array Slot), i + d = 16 → Bd b (19 + 5 * i) D (va_up (Yw b cI cZ cO 17 E0 7 [.int 0, .int 0, .ref (b + 18)]) 18 (Rw b cO 18 1 16 i)) s.heap H locs → lv_has ls 2 [(0, .ref (b + 17)), (1, .int (nI i))] → W p l e rmX7_init s m args below meth c H locs (1 + 5 * i) (16 + 34 * i) (MQ below (QK b 99 D (Exw b cI cZ cO 17 E0)) args s 81 560 (fun q => b ≤ q)) (F0 m 15 ls []) := by
  have hx := C.1
  have hb := C.2.1
  intro d
  induction d with
  | zero =>
    intro i H locs ls hi G hl
    have hi : i = 16 := by omega
    subst hi
    refine lv_iload_n hx hb dX7_init_15 rfl (lv_at hl 1 rfl) ?_
    refine lv_bipush (v := 16) hx hb dX7_init_16 (by decide) ?_
    refine lv_icmp_ge (tgt := 40) hx hb dX7_init_18 (by decide) (fun c1 => ?_) (fun c1 => ?_)
    · have G2 := G.row (q := 18) (g := fun j => some (b + (18 + 1 + 5 * j))) (va_up_self _ _ _) (fun j hj => if_pos hj)
      have G3 : Bd b 99 D (Yw b cI cZ cO 17 E0 7 [.int 0, .int 0, .ref (b + 18)]) s.heap H locs := G2.congr (fun j _ => by
        by_cases c : j = 18
        · subst c
          rw [va_up_self]
          unfold Yw
          rw [if_neg (by omega), if_neg (by omega), ent_15 b cI cZ cO s0 kd_18]
        · rw [va_up_ne _ _ c, va_up_ne _ _ c])
      exact n_ret C G3 (by rw [ent_7 b cI cZ cO s0 kd_17]; rfl) dX7_init_40
    · exact absurd (by decide) c1
  | succ d ih =>
    intro i H locs ls hi G hl
    have hk := kd19 (show i < 16 by omega)
    refine lv_iload_n hx hb dX7_init_15 rfl (lv_at hl 1 rfl) ?_
    refine lv_bipush (v := 16) hx hb dX7_init_16 (by decide) ?_
    refine lv_icmp_ge (tgt := 40) hx hb dX7_init_18 (by decide) (fun c1 => ?_) (fun c1 => ?_)
    · rw [li16, le_nI (by omega) (by omega)] at c1
      omega
    · refine lv_aload_n hx hb dX7_init_21 rfl (lv_at hl 0 rfl) ?_
      refine n_get (v := .ref (b + 18)) C G (by omega) (he := by rw [va_up_ne _ _ (by omega)]; exact Yw_n) rfl inl_X7 2 (by decide) wd_290 rfl rfl dX7_init_22 ?_
      refine lv_iload_n hx hb dX7_init_25 rfl (lv_at hl 1 rfl) ?_
      refine n_new (ci := 10) (dfl := [.int 0, .int 0, .int 0, .int 0, .int 0, .null, .null, .null, .null]) C G tyX10 tyX10_ok inl_X10 rfl wd_284 wd_196 wd_73 dfX10 (by show 1 + 5 * i + 1 ≤ 81; omega) (by show 16 + 34 * i + 9 ≤ 560; omega) dX7_init_26 (fun H G => ?_)
      refine lv_dup hx hb dX7_init_29 rfl ?_
      refine n_callN (As := []) (rest := [.ref (b + (19 + 5 * i)), .int (nI i), .ref (b + 18)]) C hX G (fun j hj => by rw [va_up_ne _ _ (by omega)]; exact Yw_ge (by omega) j hj) hl.1 (kX10_init l b D cI cZ cO hk (by omega)) ⟨List.mem_of_getElem? (i := 5) rfl, wd_198, wd_73, wd_199⟩ ⟨rfl, by decide, by decide, by decide +kernel⟩ rfl ⟨rfl, rfl⟩ ⟨Nat.le_of_ble_eq_true rfl, Nat.le_of_ble_eq_true rfl⟩ (Nat.le_of_ble_eq_true rfl) ⟨by show 1 + 5 * i + 1 + 4 ≤ 81; omega, by show 16 + 34 * i + 9 + 25 ≤ 560; omega⟩ dX7_init_30 rfl (fun H locs G => ?_)
      refine n_aast (q := 18) (n := 19 + 5 * i) C G (by omega) (by omega) (va_up_self _ _ _) (by rw [va_up_ne _ _ (by omega), Yw_ge (n := 17) (k := 18) (by omega) _ (by omega)]; exact ent_10 b cI cZ cO s0 hk) (vp_in_nI (show i < 16 by omega) (by omega)) dX7_init_33 (fun H locs G => ?_)
      have G : Bd b (19 + 5 * (i + 1)) D (va_up (Yw b cI cZ cO 17 E0 7 [.int 0, .int 0, .ref (b + 18)]) 18 (Rw b cO 18 1 16 (i + 1))) s.heap H locs := by
        rw [show 19 + 5 * (i + 1) = 19 + 5 * i + 5 by omega]
        exact G.congr (fun j _ => Rw_step (by omega) j)
      obtain ⟨y, ey⟩ : ∃ y : Int32, y = nI i + 1 := ⟨_, rfl⟩
      refine lv_iinc (v := y) (lv' := [(1, .int y), (0, .ref (b + 17))]) hx hb dX7_init_34 hl (k := 1) rfl (by rw [ey]; rfl) (by decide) rfl (fun ls hl => ?_)
      refine lv_goto (tgt := 15) hx hb dX7_init_37 (by decide) ?_
      have ey : y = nI (i + 1) := by rw [ey, li1, nI_add]
      subst ey
      have := ih (i + 1) H locs ls (by omega) G (lv_sub hl [1, 0] rfl)
      rw [show 1 + 5 * (i + 1) = 1 + 5 * i + 1 + 4 by omega, show 16 + 34 * (i + 1) = 16 + 34 * i + 9 + 25 by omega] at this
      exact this
set_option maxRecDepth 100000 in
set_option maxHeartbeats 4000000 in
theorem X5_loop (C : Cx p s m args meth c cX5_init RX5 2 none D cI cZ cO) (hX : Nx s) : ∀ (d i : Nat) (H : Heap) (locs : List Loc) (ls : Array Slot), i + d = 2 → Bd b (103 + 5 * i) D (va_up (Yw b cI cZ cO 99 E0 5 [.ref (b + 100), .ref (b + 101), .ref (b + 102)]) 101 (Rw b cO 101 2 2 i)) s.heap H locs → lv_has ls 2 [(0, .ref (b + 99)), (1, .int (nI i))] → W p l e rmX5_init s m args below meth c H locs (3 + 5 * i) (6 + 34 * i) (MQ below (QK b 113 D (Exw b cI cZ cO 99 E0)) args s 13 74 (fun q => b ≤ q)) (F0 m 28 ls []) := by
  have hx := C.1
  have hb := C.2.1
  intro d
  induction d with
  | zero =>
    intro i H locs ls hi G hl
    have hi : i = 2 := by omega
    subst hi
    refine lv_iload_n hx hb dX5_init_28 rfl (lv_at hl 1 rfl) ?_
    refine lv_iconst (v := 2) hx hb dX5_init_29 (by decide) ?_
    refine lv_icmp_ge (tgt := 52) hx hb dX5_init_30 (by decide) (fun c1 => ?_) (fun c1 => ?_)
    · have G2 := G.row (q := 101) (g := fun j => some (b + (101 + 2 + 5 * j))) (va_up_self _ _ _) (fun j hj => if_pos hj)
      have G3 : Bd b 113 D (Yw b cI cZ cO 99 E0 5 [.ref (b + 100), .ref (b + 101), .ref (b + 102)]) s.heap H locs := G2.congr (fun j _ => by
        by_cases c : j = 101
        · subst c
          rw [va_up_self]
          unfold Yw
          rw [if_neg (by omega), if_neg (by omega), ent_16 b cI cZ cO s0 kd_101]
        · rw [va_up_ne _ _ c, va_up_ne _ _ c])
      exact n_ret C G3 (by rw [ent_5 b cI cZ cO s0 kd_99]) dX5_init_52
    · exact absurd (by decide) c1
  | succ d ih =>
    intro i H locs ls hi G hl
    have hk := kd103 (show i < 2 by omega)
    refine lv_iload_n hx hb dX5_init_28 rfl (lv_at hl 1 rfl) ?_
    refine lv_iconst (v := 2) hx hb dX5_init_29 (by decide) ?_
    refine lv_icmp_ge (tgt := 52) hx hb dX5_init_30 (by decide) (fun c1 => ?_) (fun c1 => ?_)
    · rw [li2, le_nI (by omega) (by omega)] at c1
      omega
    · refine lv_aload_n hx hb dX5_init_33 rfl (lv_at hl 0 rfl) ?_
      refine n_get (v := .ref (b + 101)) C G (by omega) (he := by rw [va_up_ne _ _ (by omega)]; exact Yw_n) rfl inl_X5 1 (by decide) wd_308 rfl rfl dX5_init_34 ?_
      refine lv_iload_n hx hb dX5_init_37 rfl (lv_at hl 1 rfl) ?_
      refine n_new (ci := 10) (dfl := [.int 0, .int 0, .int 0, .int 0, .int 0, .null, .null, .null, .null]) C G tyX10 tyX10_ok inl_X10 rfl wd_304 wd_196 wd_73 dfX10 (by show 3 + 5 * i + 1 ≤ 13; omega) (by show 6 + 34 * i + 9 ≤ 74; omega) dX5_init_38 (fun H G => ?_)
      refine lv_dup hx hb dX5_init_41 rfl ?_
      refine n_callN (As := []) (rest := [.ref (b + (103 + 5 * i)), .int (nI i), .ref (b + 101)]) C hX G (fun j hj => by rw [va_up_ne _ _ (by omega)]; exact Yw_ge (by omega) j hj) hl.1 (kX10_init l b D cI cZ cO hk (by omega)) ⟨List.mem_of_getElem? (i := 6) rfl, wd_198, wd_73, wd_199⟩ ⟨rfl, by decide, by decide, by decide +kernel⟩ rfl ⟨rfl, rfl⟩ ⟨Nat.le_of_ble_eq_true rfl, Nat.le_of_ble_eq_true rfl⟩ (Nat.le_of_ble_eq_true rfl) ⟨by show 3 + 5 * i + 1 + 4 ≤ 13; omega, by show 6 + 34 * i + 9 + 25 ≤ 74; omega⟩ dX5_init_42 rfl (fun H locs G => ?_)
      refine n_aast (q := 101) (n := 103 + 5 * i) C G (by omega) (by omega) (va_up_self _ _ _) (by rw [va_up_ne _ _ (by omega), Yw_ge (n := 99) (k := 100) (by omega) _ (by omega)]; exact ent_10 b cI cZ cO s0 hk) (vp_in_nI (show i < 2 by omega) (by omega)) dX5_init_45 (fun H locs G => ?_)
      have G : Bd b (103 + 5 * (i + 1)) D (va_up (Yw b cI cZ cO 99 E0 5 [.ref (b + 100), .ref (b + 101), .ref (b + 102)]) 101 (Rw b cO 101 2 2 (i + 1))) s.heap H locs := by
        rw [show 103 + 5 * (i + 1) = 103 + 5 * i + 5 by omega]
        exact G.congr (fun j _ => Rw_step (by omega) j)
      obtain ⟨y, ey⟩ : ∃ y : Int32, y = nI i + 1 := ⟨_, rfl⟩
      refine lv_iinc (v := y) (lv' := [(1, .int y), (0, .ref (b + 99))]) hx hb dX5_init_46 hl (k := 1) rfl (by rw [ey]; rfl) (by decide) rfl (fun ls hl => ?_)
      refine lv_goto (tgt := 28) hx hb dX5_init_49 (by decide) ?_
      have ey : y = nI (i + 1) := by rw [ey, li1, nI_add]
      subst ey
      have := ih (i + 1) H locs ls (by omega) G (lv_sub hl [1, 0] rfl)
      rw [show 3 + 5 * (i + 1) = 3 + 5 * i + 1 + 4 by omega, show 6 + 34 * (i + 1) = 6 + 34 * i + 9 + 25 by omega] at this
      exact this
end Two
theorem Rw_0 (b : Nat) (cO : ClassId) (q off N : Nat) : Rw b cO q off N 0 = .inl (cO, N, .inr (.inr (.inr (.inr (fun _ => none))))) := by
  unfold Rw
  have ef : (fun j => if j < 0 then some (b + (q + off + 5 * j)) else none) = fun _ => none := by
    funext j
    rw [if_neg (by omega)]
  rw [ef]
theorem up_comm {f : Nat → va_E} {i j : Nat} {x y : va_E} (h : i ≠ j) : va_up (va_up f i x) j y = va_up (va_up f j y) i x := by
  funext k
  unfold va_up
  by_cases c : k = j
  · rw [if_pos c, if_neg (by omega), if_pos c]
  · rw [if_neg c, if_neg c]
set_option maxRecDepth 100000 in
set_option maxHeartbeats 4000000 in
theorem kX7_init (l : Launch) (b : Nat) (D : va_G) (cI cZ cO : ClassId) : MK l yX7_init cX7_init 2 rmX7_init [.ref (b + 17)] b D cI cZ cO 17 82 7 [.int 0, .int 0, .null] 81 560 := by
  refine metK (by decide) rfl (Nat.le_of_ble_eq_true rfl) ?_
  intro E0 p e s m below meth c ls hE C hn hX G hl
  have hx := C.1
  have hb := C.2.1
  have hl : lv_has ls 2 [(0, .ref (b + 17))] := hl
  have G : Bd b 18 D (Yw b cI cZ cO 17 E0 7 [.int 0, .int 0, .null]) s.heap s.heap [] := G
  refine lv_aload_n hx hb dX7_init_0 rfl (lv_at hl 0 rfl) ?_
  refine n_obj C hl.1 wd_283 wd_92 wd_93 (Nat.le_of_ble_eq_true rfl) (Nat.le_of_ble_eq_true rfl) dX7_init_1 ?_
  refine lv_aload_n hx hb dX7_init_4 rfl (lv_at hl 0 rfl) ?_
  refine lv_bipush (v := 16) hx hb dX7_init_5 (by decide) ?_
  refine n_newq (N := 16) C hX G wd_284 (by decide) (by decide) (by omega) (Nat.le_of_ble_eq_true rfl) (Nat.le_of_ble_eq_true rfl) dX7_init_7 (fun H G => ?_)
  refine n_putFE (n := 17) (fs := [.int 0, .int 0, .null]) (fs' := [.int 0, .int 0, .ref (b + 18)]) (ty := .array (.object "AnsweredFates$State")) C hn G (by omega) (by rw [va_up_ne _ _ (by omega)]; exact Yw_n) rfl inl_X7 tyX7 tyX7_ok nmX7 2 (by decide) wd_290 rfl rfl rfl (by decide +kernel) rfl rfl (Nat.le_of_ble_eq_true rfl) rfl dX7_init_10 (fun H locs G => ?_)
  rw [up_comm (by omega), Yw_up, ← Rw_0 b cO 18 1 16] at G
  refine lv_iconst (v := 0) hx hb dX7_init_13 (by decide) ?_
  refine lv_istore_n (lv' := [(1, .int 0), (0, .ref (b + 17))]) hx hb dX7_init_14 rfl hl (by decide) rfl (fun ls hl => ?_)
  exact X7_loop C hX 16 0 H locs ls rfl G (lv_sub hl [1, 0] rfl)
set_option maxRecDepth 100000 in
set_option maxHeartbeats 4000000 in
theorem kX5_init (l : Launch) (b : Nat) (D : va_G) (cI cZ cO : ClassId) : MK l yX5_init cX5_init 2 rmX5_init [.ref (b + 99)] b D cI cZ cO 99 14 5 [.null, .null, .null] 13 74 := by
  refine metK (by decide) rfl (Nat.le_of_ble_eq_true rfl) ?_
  intro E0 p e s m below meth c ls hE C hn hX G hl
  have hx := C.1
  have hb := C.2.1
  have hl : lv_has ls 2 [(0, .ref (b + 99))] := hl
  have G : Bd b 100 D (Yw b cI cZ cO 99 E0 5 [.null, .null, .null]) s.heap s.heap [] := G
  refine lv_aload_n hx hb dX5_init_0 rfl (lv_at hl 0 rfl) ?_
  refine n_obj C hl.1 wd_303 wd_92 wd_93 (Nat.le_of_ble_eq_true rfl) (Nat.le_of_ble_eq_true rfl) dX5_init_1 ?_
  refine lv_aload_n hx hb dX5_init_4 rfl (lv_at hl 0 rfl) ?_
  refine lv_iconst (v := 2) hx hb dX5_init_5 (by decide) ?_
  refine n_newz C G wd_319 (N := 2) (by decide) (by decide) (by omega) (Yw_rowz (by omega) kd_100 ln_100 (by omega)) (Nat.le_of_ble_eq_true rfl) (Nat.le_of_ble_eq_true rfl) dX5_init_6 (fun H G => ?_)
  refine n_putF (fs' := [.ref (b + 100), .null, .null]) (ty := .array .boolean) C hn G (by omega) rfl inl_X5 tyX5 tyX5_ok nmX5 0 (by decide) wd_306 rfl rfl rfl (by decide +kernel) rfl rfl (Nat.le_of_ble_eq_true rfl) rfl dX5_init_8 (fun H locs G => ?_)
  have G : Bd b 101 D (Yw b cI cZ cO 99 E0 5 [.ref (b + 100), .null, .null]) s.heap H locs := G
  refine lv_aload_n hx hb dX5_init_11 rfl (lv_at hl 0 rfl) ?_
  refine lv_iconst (v := 2) hx hb dX5_init_12 (by decide) ?_
  refine n_newq (N := 2) C hX G wd_304 (by decide) (by decide) (by omega) (Nat.le_of_ble_eq_true rfl) (Nat.le_of_ble_eq_true rfl) dX5_init_13 (fun H G => ?_)
  refine n_putFE (n := 99) (fs := [.ref (b + 100), .null, .null]) (fs' := [.ref (b + 100), .ref (b + 101), .null]) (ty := .array (.object "AnsweredFates$State")) C hn G (by omega) (by rw [va_up_ne _ _ (by omega)]; exact Yw_n) rfl inl_X5 tyX5 tyX5_ok nmX5 1 (by decide) wd_308 rfl rfl rfl (by decide +kernel) rfl rfl (Nat.le_of_ble_eq_true rfl) rfl dX5_init_16 (fun H locs G => ?_)
  rw [up_comm (by omega), Yw_up, ← Rw_0 b cO 101 2 2] at G
  have G : Bd b 102 D (va_up (Yw b cI cZ cO 99 E0 5 [.ref (b + 100), .ref (b + 101), .null]) 101 (Rw b cO 101 2 2 0)) s.heap H locs := G
  refine lv_aload_n hx hb dX5_init_19 rfl (lv_at hl 0 rfl) ?_
  refine lv_iconst (v := 2) hx hb dX5_init_20 (by decide) ?_
  refine n_newi C G wd_122 (N := 2) (by decide) (by decide) (by omega) (by rw [va_up_ne _ _ (by omega)]; exact Yw_row (by omega) kd_102 ln_102 (by omega)) (Nat.le_of_ble_eq_true rfl) (Nat.le_of_ble_eq_true rfl) dX5_init_21 (fun H G => ?_)
  refine n_putFE (n := 99) (fs := [.ref (b + 100), .ref (b + 101), .null]) (fs' := [.ref (b + 100), .ref (b + 101), .ref (b + 102)]) (ty := .array .int) C hn G (by omega) (by rw [va_up_ne _ _ (by omega)]; exact Yw_n) rfl inl_X5 tyX5 tyX5_ok nmX5 2 (by decide) wd_310 rfl rfl rfl (by decide +kernel) rfl rfl (Nat.le_of_ble_eq_true rfl) rfl dX5_init_23 (fun H locs G => ?_)
  rw [up_comm (by omega), Yw_up] at G
  refine lv_iconst (v := 0) hx hb dX5_init_26 (by decide) ?_
  refine lv_istore_n (lv' := [(1, .int 0), (0, .ref (b + 99))]) hx hb dX5_init_27 rfl hl (by decide) rfl (fun ls hl => ?_)
  exact X5_loop C hX 2 0 H locs ls rfl G (lv_sub hl [1, 0] rfl)
