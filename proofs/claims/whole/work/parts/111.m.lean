-- X11_drift
def rmX11_drift : Room := { frames := 6, cells := 0, slots := 0, locals := 149 }
def fX11_drift_28b (kh : Sg → Int32 → Int32 → Option (Int32 × Sg)) (kx : Sg → Option (Int32 × Sg)) (σ : Sg) (x1 : Int32) (x3 : Int32) : Option (Int32 × Sg) :=
  (if x1 ≤ x3 then kx σ else bv (fX2_actByDraws σ) (fun σ_5 => bv (fX2_passYear σ_5) (fun σ_6 => lt (x3 + 1) (fun x3_7 => kh σ_6 x1 x3_7))))
set_option maxRecDepth 100000 in
set_option maxHeartbeats 4000000 in
theorem wX11_drift_28b {p : Program} {l : Launch} {e : Env} {s : State} {m : MethodId} {args : Array Value} {below : List Frame} {meth : Method} {c : Code} {D : va_G} {cI cZ cO : ClassId} {b : Nat} (C : Cx p s m args meth c cX11_drift RX11 4 (some .int) D cI cZ cO) {Rr : (Int32 × Sg)} {kh : Sg → Int32 → Int32 → Option (Int32 × Sg)} {kx : Sg → Option (Int32 × Sg)} (hh : ∀ (σ : Sg) (x1 : Int32) (x3 : Int32) (H : Heap) (locs : List Loc) (ls : Array Slot), kh σ x1 x3 = some Rr → Gd b D cI cZ cO σ s.heap H locs → lv_has ls 4 [(0, .ref (b + 0)), (1, .int x1), (3, .int x3)] → W p l e rmX11_drift s m args below meth c H locs 0 0 (MQ below (QI b D cI cZ cO Rr) args s 0 0 (fun q => b ≤ q)) (F0 m 28 ls [])) (hxx : ∀ (σ : Sg) (H : Heap) (locs : List Loc) (ls : Array Slot), kx σ = some Rr → Gd b D cI cZ cO σ s.heap H locs → lv_has ls 4 [(0, .ref (b + 0))] → W p l e rmX11_drift s m args below meth c H locs 0 0 (MQ below (QI b D cI cZ cO Rr) args s 0 0 (fun q => b ≤ q)) (F0 m 57 ls [])) {σ : Sg} {x1 : Int32} {x3 : Int32} {H : Heap} {locs : List Loc} {ls : Array Slot} (hs : fX11_drift_28b kh kx σ x1 x3 = some Rr) (G : Gd b D cI cZ cO σ s.heap H locs) (hl : lv_has ls 4 [(0, .ref (b + 0)), (1, .int x1), (3, .int x3)]) : W p l e rmX11_drift s m args below meth c H locs 0 0 (MQ below (QI b D cI cZ cO Rr) args s 0 0 (fun q => b ≤ q)) (F0 m 28 ls []) := by
  have hx := C.1
  have hb := C.2.1
  unfold fX11_drift_28b at hs
  refine lv_iload_n hx hb dX11_drift_28 rfl (lv_at hl 2 rfl) ?_
  refine lv_iload_n hx hb dX11_drift_29 rfl (lv_at hl 1 rfl) ?_
  refine lv_icmp_ge (tgt := 57) hx hb dX11_drift_30 (by decide) (fun c_4 => ?_) (fun c_4 => ?_)
  · replace hs := ifT c_4 hs
    exact hxx _ _ _ _ hs G (lv_sub hl [0] rfl)
  · replace hs := ifF c_4 hs
    refine lv_aload_n hx hb dX11_drift_33 rfl (lv_at hl 0 rfl) ?_
    refine gf_X11_19 C G kd_0 (n' := 3) rfl dX11_drift_34 ?_
    refine lv_aload_n hx hb dX11_drift_37 rfl (lv_at hl 0 rfl) ?_
    refine gf_X11_40 C G kd_0 (n' := 113) rfl dX11_drift_38 ?_
    obtain ⟨σ_5, hc, hs⟩ := bvE hs
    refine callVV (ar := 1) (As := [.ref (b + 113)]) (rest := []) C G hl.1 (ctX2_actByDraws _  hc) ⟨wd_719, wd_720, wd_721, wd_71, wd_722⟩ (by decide +kernel) rfl ⟨rfl, rfl⟩ ⟨Nat.le_of_ble_eq_true rfl, Nat.le_of_ble_eq_true rfl⟩ (kd_lt kd_3 (by decide)) (ent_2 b cI cZ cO _ kd_3) rfl (Nat.le_of_ble_eq_true rfl) ⟨Nat.le_of_ble_eq_true rfl, Nat.le_of_ble_eq_true rfl⟩ dX11_drift_41 rfl (fun H locs G => ?_)
    refine lv_aload_n hx hb dX11_drift_44 rfl (lv_at hl 0 rfl) ?_
    refine gf_X11_19 C G kd_0 (n' := 3) rfl dX11_drift_45 ?_
    obtain ⟨σ_6, hc, hs⟩ := bvE hs
    refine callVV (ar := 0) (As := []) (rest := []) C G hl.1 (ctX2_passYear _  hc) ⟨wd_688, wd_689, wd_690, wd_71, wd_691⟩ (by decide +kernel) rfl ⟨rfl, rfl⟩ ⟨Nat.le_of_ble_eq_true rfl, Nat.le_of_ble_eq_true rfl⟩ (kd_lt kd_3 (by decide)) (ent_2 b cI cZ cO _ kd_3) rfl (Nat.le_of_ble_eq_true rfl) ⟨Nat.le_of_ble_eq_true rfl, Nat.le_of_ble_eq_true rfl⟩ dX11_drift_48 rfl (fun H locs G => ?_)
    obtain ⟨x3_7, e_7, hs⟩ := ltE hs
    refine lv_iinc (v := x3_7) (lv' := [(3, .int x3_7), (0, .ref (b + 0)), (1, .int x1)]) hx hb dX11_drift_51 hl (k := 2) rfl (by rw [e_7]; rfl) (by decide) rfl (fun ls hl => ?_)
    refine lv_goto (tgt := 28) hx hb dX11_drift_54 (by decide) ?_
    exact hh _ _ _ _ _ _ hs G (lv_sub hl [1, 2, 0] rfl)
def fX11_drift_28 : Nat → (Sg → Option (Int32 × Sg)) → Sg → Int32 → Int32 → Option (Int32 × Sg)
  | 0, _, _, _, _ => none
  | fu + 1, kx, σ, x1, x3 => fX11_drift_28b (fX11_drift_28 fu kx) kx σ x1 x3
theorem fX11_drift_28_s (fu : Nat) (kx : Sg → Option (Int32 × Sg)) (σ : Sg) (x1 : Int32) (x3 : Int32) : fX11_drift_28 (fu + 1) kx σ x1 x3 = fX11_drift_28b (fX11_drift_28 fu kx) kx σ x1 x3 := by rw [fX11_drift_28]
theorem wX11_drift_28 {p : Program} {l : Launch} {e : Env} {s : State} {m : MethodId} {args : Array Value} {below : List Frame} {meth : Method} {c : Code} {D : va_G} {cI cZ cO : ClassId} {b : Nat} (C : Cx p s m args meth c cX11_drift RX11 4 (some .int) D cI cZ cO) {Rr : (Int32 × Sg)} {kx : Sg → Option (Int32 × Sg)} (hxx : ∀ (σ : Sg) (H : Heap) (locs : List Loc) (ls : Array Slot), kx σ = some Rr → Gd b D cI cZ cO σ s.heap H locs → lv_has ls 4 [(0, .ref (b + 0))] → W p l e rmX11_drift s m args below meth c H locs 0 0 (MQ below (QI b D cI cZ cO Rr) args s 0 0 (fun q => b ≤ q)) (F0 m 57 ls [])) : ∀ (fu : Nat) (σ : Sg) (x1 : Int32) (x3 : Int32) (H : Heap) (locs : List Loc) (ls : Array Slot), fX11_drift_28 fu kx σ x1 x3 = some Rr → Gd b D cI cZ cO σ s.heap H locs → lv_has ls 4 [(0, .ref (b + 0)), (1, .int x1), (3, .int x3)] → W p l e rmX11_drift s m args below meth c H locs 0 0 (MQ below (QI b D cI cZ cO Rr) args s 0 0 (fun q => b ≤ q)) (F0 m 28 ls []) := by
  intro fu
  induction fu with
  | zero => intro σ x1 x3 H locs ls hs; cases hs
  | succ fu ih =>
    intro σ x1 x3 H locs ls hs G hl
    exact wX11_drift_28b C (fun σ x1 x3 H locs ls hs G hl => ih σ x1 x3 H locs ls hs G hl) hxx hs G hl
def fX11_drift (σ : Sg) (x1 : Int32) : Option (Int32 × Sg) :=
  bi (fX11_refuseYears σ x1) (fun r_1 σ_1 => (if r_1 = 0 then bv (fX7_remember 11 σ_1) (fun σ_3 => fX11_drift_28 FU (fun σ_8 => some ((σ_8 11 1), σ_8)) σ_3 x1 0) else some (r_1, σ_1)))
set_option maxRecDepth 100000 in
set_option maxHeartbeats 4000000 in
theorem ctX11_drift (l : Launch) {D : va_G} {cI cZ cO : ClassId} {b : Nat} {σ : Sg} {x1 : Int32} {Rr : (Int32 × Sg)} (hs : fX11_drift σ x1 = some Rr) : MI l yX11_drift cX11_drift 4 (some .int) rmX11_drift [.ref (b + 0), .int x1] b D cI cZ cO σ Rr := by
  unfold fX11_drift at hs
  refine metI (by decide +kernel) (Nat.le_of_ble_eq_true rfl) (fun p e s m below meth c ls C G hl => ?_)
  have C : Cx p s m _ meth c cX11_drift RX11 4 (some .int) D cI cZ cO := C
  have hx := C.1
  have hb := C.2.1
  have hl : lv_has ls 4 [(0, .ref (b + 0)), (1, .int x1)] := hl
  refine lv_aload_n hx hb dX11_drift_0 rfl (lv_at hl 0 rfl) ?_
  refine lv_iload_n hx hb dX11_drift_1 rfl (lv_at hl 1 rfl) ?_
  obtain ⟨r_1, σ_1, hc, hs⟩ := biE hs
  refine callVI (ar := 1) (As := [.int x1]) (rest := []) C G hl.1 (ctX11_refuseYears _  hc) ⟨wd_684, wd_686, wd_15, wd_69, wd_687⟩ (by decide +kernel) rfl ⟨rfl, rfl⟩ ⟨Nat.le_of_ble_eq_true rfl, Nat.le_of_ble_eq_true rfl⟩ (kd_lt kd_0 (by decide)) (ent_11 b cI cZ cO _ kd_0) rfl (Nat.le_of_ble_eq_true rfl) ⟨Nat.le_of_ble_eq_true rfl, Nat.le_of_ble_eq_true rfl⟩ dX11_drift_2 rfl (fun H locs G => ?_)
  refine lv_istore_n (lv' := [(2, .int r_1), (0, .ref (b + 0)), (1, .int x1)]) hx hb dX11_drift_5 rfl hl (by decide) rfl (fun ls hl => ?_)
  refine lv_iload_n hx hb dX11_drift_6 rfl (lv_at hl 0 rfl) ?_
  refine lv_if_eq (tgt := 12) hx hb dX11_drift_7 (by decide) (fun c_2 => ?_) (fun c_2 => ?_)
  · replace hs := ifT c_2 hs
    refine lv_aload_n hx hb dX11_drift_12 rfl (lv_at hl 1 rfl) ?_
    refine gf_X11_26 C G kd_0 (n' := 17) rfl dX11_drift_13 ?_
    refine lv_aload_n hx hb dX11_drift_16 rfl (lv_at hl 1 rfl) ?_
    refine gf_X11_19 C G kd_0 (n' := 3) rfl dX11_drift_17 ?_
    refine gf_X11_92 C G kd_3 (n' := 11) rfl dX11_drift_20 ?_
    obtain ⟨σ_3, hc, hs⟩ := bvE hs
    refine callVV (ar := 1) (As := [.ref (b + 11)]) (rest := []) C G hl.1 (ctX7_remember _ kd_11 hc) ⟨wd_650, wd_651, wd_652, wd_75, wd_653⟩ (by decide +kernel) rfl ⟨rfl, rfl⟩ ⟨Nat.le_of_ble_eq_true rfl, Nat.le_of_ble_eq_true rfl⟩ (kd_lt kd_17 (by decide)) (ent_7 b cI cZ cO _ kd_17) rfl (Nat.le_of_ble_eq_true rfl) ⟨Nat.le_of_ble_eq_true rfl, Nat.le_of_ble_eq_true rfl⟩ dX11_drift_23 rfl (fun H locs G => ?_)
    refine lv_iconst (v := 0) hx hb dX11_drift_26 (by decide) ?_
    refine lv_istore_n (lv' := [(3, .int 0), (2, .int r_1), (0, .ref (b + 0)), (1, .int x1)]) hx hb dX11_drift_27 rfl hl (by decide) rfl (fun ls hl => ?_)
    refine wX11_drift_28 C (fun σ_8 H locs ls hs G hl => ?_) FU _ _ _ _ _ _ hs G (lv_sub hl [2, 3, 0] rfl)
    refine lv_aload_n hx hb dX11_drift_57 rfl (lv_at hl 0 rfl) ?_
    refine gf_X11_19 C G kd_0 (n' := 3) rfl dX11_drift_58 ?_
    refine gf_X11_92 C G kd_3 (n' := 11) rfl dX11_drift_61 ?_
    refine gf_X11_127 C G kd_11 dX11_drift_64 ?_
    exact retI C G hs dX11_drift_67
  · replace hs := ifF c_2 hs
    refine lv_iload_n hx hb dX11_drift_10 rfl (lv_at hl 0 rfl) ?_
    exact retI C G hs dX11_drift_11
-- X11_undo
def rmX11_undo : Room := { frames := 3, cells := 0, slots := 0, locals := 72 }
def fX11_undo (σ : Sg) : Option (Int32 × Sg) :=
  (if (σ 17 0) = 0 then some ((-1000000003), σ) else bv (fX7_restore 11 σ) (fun σ_2 => some ((σ_2 17 0), σ_2)))
set_option maxRecDepth 100000 in
set_option maxHeartbeats 4000000 in
theorem ctX11_undo (l : Launch) {D : va_G} {cI cZ cO : ClassId} {b : Nat} {σ : Sg} {Rr : (Int32 × Sg)} (hs : fX11_undo σ = some Rr) : MI l yX11_undo cX11_undo 1 (some .int) rmX11_undo [.ref (b + 0)] b D cI cZ cO σ Rr := by
  unfold fX11_undo at hs
  refine metI (by decide +kernel) (Nat.le_of_ble_eq_true rfl) (fun p e s m below meth c ls C G hl => ?_)
  have C : Cx p s m _ meth c cX11_undo RX11 1 (some .int) D cI cZ cO := C
  have hx := C.1
  have hb := C.2.1
  have hl : lv_has ls 1 [(0, .ref (b + 0))] := hl
  refine lv_aload_n hx hb dX11_undo_0 rfl (lv_at hl 0 rfl) ?_
  refine gf_X11_26 C G kd_0 (n' := 17) rfl dX11_undo_1 ?_
  refine gf_X11_160 C G kd_17 dX11_undo_4 ?_
  refine lv_if_ne (tgt := 13) hx hb dX11_undo_7 (by decide) (fun c_1 => ?_) (fun c_1 => ?_)
  · replace hs := ifF c_1 hs
    refine lv_aload_n hx hb dX11_undo_13 rfl (lv_at hl 0 rfl) ?_
    refine gf_X11_26 C G kd_0 (n' := 17) rfl dX11_undo_14 ?_
    refine lv_aload_n hx hb dX11_undo_17 rfl (lv_at hl 0 rfl) ?_
    refine gf_X11_19 C G kd_0 (n' := 3) rfl dX11_undo_18 ?_
    refine gf_X11_92 C G kd_3 (n' := 11) rfl dX11_undo_21 ?_
    obtain ⟨σ_2, hc, hs⟩ := bvE hs
    refine callVV (ar := 1) (As := [.ref (b + 11)]) (rest := []) C G hl.1 (ctX7_restore _ kd_11 hc) ⟨wd_739, wd_740, wd_741, wd_75, wd_742⟩ (by decide +kernel) rfl ⟨rfl, rfl⟩ ⟨Nat.le_of_ble_eq_true rfl, Nat.le_of_ble_eq_true rfl⟩ (kd_lt kd_17 (by decide)) (ent_7 b cI cZ cO _ kd_17) rfl (Nat.le_of_ble_eq_true rfl) ⟨Nat.le_of_ble_eq_true rfl, Nat.le_of_ble_eq_true rfl⟩ dX11_undo_24 rfl (fun H locs G => ?_)
    refine lv_aload_n hx hb dX11_undo_27 rfl (lv_at hl 0 rfl) ?_
    refine gf_X11_26 C G kd_0 (n' := 17) rfl dX11_undo_28 ?_
    refine gf_X11_160 C G kd_17 dX11_undo_31 ?_
    exact retI C G hs dX11_undo_34
  · replace hs := ifT c_1 hs
    refine m_ldc C wd_674 dX11_undo_10 ?_
    exact retI C G hs dX11_undo_12
-- X11_down
def rmX11_down : Room := { frames := 3, cells := 0, slots := 0, locals := 79 }
def fX11_down_33 (σ : Sg) : Option (Int32 × Sg) :=
  some ((-1000000002), σ)
set_option maxRecDepth 100000 in
set_option maxHeartbeats 4000000 in
theorem wX11_down_33 {p : Program} {l : Launch} {e : Env} {s : State} {m : MethodId} {args : Array Value} {below : List Frame} {meth : Method} {c : Code} {D : va_G} {cI cZ cO : ClassId} {b : Nat} (C : Cx p s m args meth c cX11_down RX11 4 (some .int) D cI cZ cO) {Rr : (Int32 × Sg)} {σ : Sg} {H : Heap} {locs : List Loc} {ls : Array Slot} (hs : fX11_down_33 σ = some Rr) (G : Gd b D cI cZ cO σ s.heap H locs) (hl : lv_has ls 4 []) : W p l e rmX11_down s m args below meth c H locs 0 0 (MQ below (QI b D cI cZ cO Rr) args s 0 0 (fun q => b ≤ q)) (F0 m 33 ls []) := by
  have hx := C.1
  have hb := C.2.1
  unfold fX11_down_33 at hs
  refine m_ldc C wd_422 dX11_down_33 ?_
  exact retI C G hs dX11_down_35
def fX11_down (σ : Sg) (x1 : Int32) (x2 : Int32) (x3 : Int32) : Option (Int32 × Sg) :=
  bi (fX2_isPerson σ x1) (fun r_1 σ_1 => (if r_1 = 0 then some ((-1000000001), σ_1) else (if x2 < 0 then fX11_down_33 σ_1 else (if 99 < x2 then fX11_down_33 σ_1 else (if x3 < 0 then fX11_down_33 σ_1 else (if x3 ≤ 1 then bv (fX2_bargainBy σ_1 x1 x2) (fun σ_7 => (if x3 = 0 then some ((σ_7 16 0), σ_7) else some ((σ_7 16 1), σ_7))) else fX11_down_33 σ_1))))))
set_option maxRecDepth 100000 in
set_option maxHeartbeats 4000000 in
theorem ctX11_down (l : Launch) {D : va_G} {cI cZ cO : ClassId} {b : Nat} {σ : Sg} {x1 : Int32} {x2 : Int32} {x3 : Int32} {Rr : (Int32 × Sg)} (hs : fX11_down σ x1 x2 x3 = some Rr) : MI l yX11_down cX11_down 4 (some .int) rmX11_down [.ref (b + 0), .int x1, .int x2, .int x3] b D cI cZ cO σ Rr := by
  unfold fX11_down at hs
  refine metI (by decide +kernel) (Nat.le_of_ble_eq_true rfl) (fun p e s m below meth c ls C G hl => ?_)
  have C : Cx p s m _ meth c cX11_down RX11 4 (some .int) D cI cZ cO := C
  have hx := C.1
  have hb := C.2.1
  have hl : lv_has ls 4 [(0, .ref (b + 0)), (1, .int x1), (2, .int x2), (3, .int x3)] := hl
  refine lv_aload_n hx hb dX11_down_0 rfl (lv_at hl 0 rfl) ?_
  refine gf_X11_19 C G kd_0 (n' := 3) rfl dX11_down_1 ?_
  refine lv_iload_n hx hb dX11_down_4 rfl (lv_at hl 1 rfl) ?_
  obtain ⟨r_1, σ_1, hc, hs⟩ := biE hs
  refine callVI (ar := 1) (As := [.int x1]) (rest := []) C G hl.1 (ctX2_isPerson _  hc) ⟨wd_589, wd_590, wd_591, wd_71, wd_592⟩ (by decide +kernel) rfl ⟨rfl, rfl⟩ ⟨Nat.le_of_ble_eq_true rfl, Nat.le_of_ble_eq_true rfl⟩ (kd_lt kd_3 (by decide)) (ent_2 b cI cZ cO _ kd_3) rfl (Nat.le_of_ble_eq_true rfl) ⟨Nat.le_of_ble_eq_true rfl, Nat.le_of_ble_eq_true rfl⟩ dX11_down_5 rfl (fun H locs G => ?_)
  refine lv_if_ne (tgt := 14) hx hb dX11_down_8 (by decide) (fun c_2 => ?_) (fun c_2 => ?_)
  · replace hs := ifF c_2 hs
    refine lv_iload_n hx hb dX11_down_14 rfl (lv_at hl 2 rfl) ?_
    refine lv_if_lt (tgt := 33) hx hb dX11_down_15 (by decide) (fun c_3 => ?_) (fun c_3 => ?_)
    · replace hs := ifT c_3 hs
      exact wX11_down_33 C   hs G (lv_sub hl [] rfl)
    · replace hs := ifF c_3 hs
      refine lv_iload_n hx hb dX11_down_18 rfl (lv_at hl 2 rfl) ?_
      refine lv_bipush (v := 99) hx hb dX11_down_19 (by decide) ?_
      refine lv_icmp_gt (tgt := 33) hx hb dX11_down_21 (by decide) (fun c_4 => ?_) (fun c_4 => ?_)
      · replace hs := ifT c_4 hs
        exact wX11_down_33 C   hs G (lv_sub hl [] rfl)
      · replace hs := ifF c_4 hs
        refine lv_iload_n hx hb dX11_down_24 rfl (lv_at hl 3 rfl) ?_
        refine lv_if_lt (tgt := 33) hx hb dX11_down_25 (by decide) (fun c_5 => ?_) (fun c_5 => ?_)
        · replace hs := ifT c_5 hs
          exact wX11_down_33 C   hs G (lv_sub hl [] rfl)
        · replace hs := ifF c_5 hs
          refine lv_iload_n hx hb dX11_down_28 rfl (lv_at hl 3 rfl) ?_
          refine lv_iconst (v := 1) hx hb dX11_down_29 (by decide) ?_
          refine lv_icmp_le (tgt := 36) hx hb dX11_down_30 (by decide) (fun c_6 => ?_) (fun c_6 => ?_)
          · replace hs := ifT c_6 hs
            refine lv_aload_n hx hb dX11_down_36 rfl (lv_at hl 0 rfl) ?_
            refine gf_X11_19 C G kd_0 (n' := 3) rfl dX11_down_37 ?_
            refine lv_iload_n hx hb dX11_down_40 rfl (lv_at hl 1 rfl) ?_
            refine lv_iload_n hx hb dX11_down_41 rfl (lv_at hl 2 rfl) ?_
            obtain ⟨σ_7, hc, hs⟩ := bvE hs
            refine callVV (ar := 2) (As := [.int x1, .int x2]) (rest := []) C G hl.1 (ctX2_bargainBy _  hc) ⟨wd_747, wd_603, wd_604, wd_71, wd_605⟩ (by decide +kernel) rfl ⟨rfl, rfl⟩ ⟨Nat.le_of_ble_eq_true rfl, Nat.le_of_ble_eq_true rfl⟩ (kd_lt kd_3 (by decide)) (ent_2 b cI cZ cO _ kd_3) rfl (Nat.le_of_ble_eq_true rfl) ⟨Nat.le_of_ble_eq_true rfl, Nat.le_of_ble_eq_true rfl⟩ dX11_down_42 rfl (fun H locs G => ?_)
            refine lv_iload_n hx hb dX11_down_45 rfl (lv_at hl 3 rfl) ?_
            refine lv_if_ne (tgt := 62) hx hb dX11_down_46 (by decide) (fun c_8 => ?_) (fun c_8 => ?_)
            · replace hs := ifF c_8 hs
              refine lv_aload_n hx hb dX11_down_62 rfl (lv_at hl 0 rfl) ?_
              refine gf_X11_19 C G kd_0 (n' := 3) rfl dX11_down_63 ?_
              refine gf_X11_242 C G kd_3 (n' := 16) rfl dX11_down_66 ?_
              refine gf_X11_251 C G kd_16 dX11_down_69 ?_
              exact retI C G hs dX11_down_72
            · replace hs := ifT c_8 hs
              refine lv_aload_n hx hb dX11_down_49 rfl (lv_at hl 0 rfl) ?_
              refine gf_X11_19 C G kd_0 (n' := 3) rfl dX11_down_50 ?_
              refine gf_X11_242 C G kd_3 (n' := 16) rfl dX11_down_53 ?_
              refine gf_X11_246 C G kd_16 dX11_down_56 ?_
              refine lv_goto (tgt := 72) hx hb dX11_down_59 (by decide) ?_
              exact retI C G hs dX11_down_72
          · replace hs := ifF c_6 hs
            exact wX11_down_33 C   hs G (lv_sub hl [] rfl)
  · replace hs := ifT c_2 hs
    refine m_ldc C wd_593 dX11_down_11 ?_
    exact retI C G hs dX11_down_13
-- X11_best
def rmX11_best : Room := { frames := 5, cells := 0, slots := 0, locals := 126 }
def fX11_best_10 (σ : Sg) : Option (Int32 × Sg) :=
  some ((-1000000002), σ)
set_option maxRecDepth 100000 in
set_option maxHeartbeats 4000000 in
theorem wX11_best_10 {p : Program} {l : Launch} {e : Env} {s : State} {m : MethodId} {args : Array Value} {below : List Frame} {meth : Method} {c : Code} {D : va_G} {cI cZ cO : ClassId} {b : Nat} (C : Cx p s m args meth c cX11_best RX11 2 (some .int) D cI cZ cO) {Rr : (Int32 × Sg)} {σ : Sg} {H : Heap} {locs : List Loc} {ls : Array Slot} (hs : fX11_best_10 σ = some Rr) (G : Gd b D cI cZ cO σ s.heap H locs) (hl : lv_has ls 2 []) : W p l e rmX11_best s m args below meth c H locs 0 0 (MQ below (QI b D cI cZ cO Rr) args s 0 0 (fun q => b ≤ q)) (F0 m 10 ls []) := by
  have hx := C.1
  have hb := C.2.1
  unfold fX11_best_10 at hs
  refine m_ldc C wd_422 dX11_best_10 ?_
  exact retI C G hs dX11_best_12
def fX11_best (σ : Sg) (x1 : Int32) : Option (Int32 × Sg) :=
  (if x1 < 0 then fX11_best_10 σ else (if x1 ≤ 99 then bi (fX2_bestFor σ x1) (fun r_3 σ_3 => some (r_3, σ_3)) else fX11_best_10 σ))
set_option maxRecDepth 100000 in
set_option maxHeartbeats 4000000 in
theorem ctX11_best (l : Launch) {D : va_G} {cI cZ cO : ClassId} {b : Nat} {σ : Sg} {x1 : Int32} {Rr : (Int32 × Sg)} (hs : fX11_best σ x1 = some Rr) : MI l yX11_best cX11_best 2 (some .int) rmX11_best [.ref (b + 0), .int x1] b D cI cZ cO σ Rr := by
  unfold fX11_best at hs
  refine metI (by decide +kernel) (Nat.le_of_ble_eq_true rfl) (fun p e s m below meth c ls C G hl => ?_)
  have C : Cx p s m _ meth c cX11_best RX11 2 (some .int) D cI cZ cO := C
  have hx := C.1
  have hb := C.2.1
  have hl : lv_has ls 2 [(0, .ref (b + 0)), (1, .int x1)] := hl
  refine lv_iload_n hx hb dX11_best_0 rfl (lv_at hl 1 rfl) ?_
  refine lv_if_lt (tgt := 10) hx hb dX11_best_1 (by decide) (fun c_1 => ?_) (fun c_1 => ?_)
  · replace hs := ifT c_1 hs
    exact wX11_best_10 C   hs G (lv_sub hl [] rfl)
  · replace hs := ifF c_1 hs
    refine lv_iload_n hx hb dX11_best_4 rfl (lv_at hl 1 rfl) ?_
    refine lv_bipush (v := 99) hx hb dX11_best_5 (by decide) ?_
    refine lv_icmp_le (tgt := 13) hx hb dX11_best_7 (by decide) (fun c_2 => ?_) (fun c_2 => ?_)
    · replace hs := ifT c_2 hs
      refine lv_aload_n hx hb dX11_best_13 rfl (lv_at hl 0 rfl) ?_
      refine gf_X11_19 C G kd_0 (n' := 3) rfl dX11_best_14 ?_
      refine lv_iload_n hx hb dX11_best_17 rfl (lv_at hl 1 rfl) ?_
      obtain ⟨r_3, σ_3, hc, hs⟩ := biE hs
      refine callVI (ar := 1) (As := [.int x1]) (rest := []) C G hl.1 (ctX2_bestFor _  hc) ⟨wd_752, wd_753, wd_754, wd_71, wd_755⟩ (by decide +kernel) rfl ⟨rfl, rfl⟩ ⟨Nat.le_of_ble_eq_true rfl, Nat.le_of_ble_eq_true rfl⟩ (kd_lt kd_3 (by decide)) (ent_2 b cI cZ cO _ kd_3) rfl (Nat.le_of_ble_eq_true rfl) ⟨Nat.le_of_ble_eq_true rfl, Nat.le_of_ble_eq_true rfl⟩ dX11_best_18 rfl (fun H locs G => ?_)
      exact retI C G hs dX11_best_21
    · replace hs := ifF c_2 hs
      exact wX11_best_10 C   hs G (lv_sub hl [] rfl)
-- X11_match
def rmX11_match : Room := { frames := 6, cells := 0, slots := 0, locals := 147 }
def fX11_match_19 (σ : Sg) (x1 : Int32) : Option (Int32 × Sg) :=
  bv (fX6_work σ) (fun σ_2 => (if x1 = (-1) then bi (fX6_total σ_2) (fun r_5 σ_5 => some (r_5, σ_5)) else (if inb x1 7 then some ((σ_2 121 x1.toNatClampNeg), σ_2) else none)))
set_option maxRecDepth 100000 in
set_option maxHeartbeats 4000000 in
theorem wX11_match_19 {p : Program} {l : Launch} {e : Env} {s : State} {m : MethodId} {args : Array Value} {below : List Frame} {meth : Method} {c : Code} {D : va_G} {cI cZ cO : ClassId} {b : Nat} (C : Cx p s m args meth c cX11_match RX11 2 (some .int) D cI cZ cO) {Rr : (Int32 × Sg)} {σ : Sg} {x1 : Int32} {H : Heap} {locs : List Loc} {ls : Array Slot} (hs : fX11_match_19 σ x1 = some Rr) (G : Gd b D cI cZ cO σ s.heap H locs) (hl : lv_has ls 2 [(0, .ref (b + 0)), (1, .int x1)]) : W p l e rmX11_match s m args below meth c H locs 0 0 (MQ below (QI b D cI cZ cO Rr) args s 0 0 (fun q => b ≤ q)) (F0 m 19 ls []) := by
  have hx := C.1
  have hb := C.2.1
  unfold fX11_match_19 at hs
  refine lv_aload_n hx hb dX11_match_19 rfl (lv_at hl 0 rfl) ?_
  refine gf_X11_61 C G kd_0 (n' := 120) rfl dX11_match_20 ?_
  refine lv_aload_n hx hb dX11_match_23 rfl (lv_at hl 0 rfl) ?_
  refine gf_X11_19 C G kd_0 (n' := 3) rfl dX11_match_24 ?_
  obtain ⟨σ_2, hc, hs⟩ := bvE hs
  refine callVV (ar := 1) (As := [.ref (b + 3)]) (rest := []) C G hl.1 (ctX6_work _  hc) ⟨wd_760, wd_761, wd_762, wd_80, wd_763⟩ (by decide +kernel) rfl ⟨rfl, rfl⟩ ⟨Nat.le_of_ble_eq_true rfl, Nat.le_of_ble_eq_true rfl⟩ (kd_lt kd_120 (by decide)) (ent_6 b cI cZ cO _ kd_120) rfl (Nat.le_of_ble_eq_true rfl) ⟨Nat.le_of_ble_eq_true rfl, Nat.le_of_ble_eq_true rfl⟩ dX11_match_27 rfl (fun H locs G => ?_)
  refine lv_iload_n hx hb dX11_match_30 rfl (lv_at hl 1 rfl) ?_
  refine lv_iconst (v := (-1)) hx hb dX11_match_31 (by decide) ?_
  refine lv_icmp_ne (tgt := 45) hx hb dX11_match_32 (by decide) (fun c_3 => ?_) (fun c_3 => ?_)
  · replace hs := ifF c_3 hs
    refine lv_aload_n hx hb dX11_match_45 rfl (lv_at hl 0 rfl) ?_
    refine gf_X11_61 C G kd_0 (n' := 120) rfl dX11_match_46 ?_
    refine gf_X11_264 C G kd_120 (n' := 121) rfl dX11_match_49 ?_
    refine lv_iload_n hx hb dX11_match_52 rfl (lv_at hl 1 rfl) ?_
    obtain ⟨g_4, hs⟩ := gdE hs
    refine m_iald C G kd_121 ln_121 g_4 dX11_match_53 ?_
    exact retI C G hs dX11_match_54
  · replace hs := ifT c_3 hs
    refine lv_aload_n hx hb dX11_match_35 rfl (lv_at hl 0 rfl) ?_
    refine gf_X11_61 C G kd_0 (n' := 120) rfl dX11_match_36 ?_
    obtain ⟨r_5, σ_5, hc, hs⟩ := biE hs
    refine callVI (ar := 0) (As := []) (rest := []) C G hl.1 (ctX6_total _  hc) ⟨wd_791, wd_792, wd_793, wd_80, wd_794⟩ (by decide +kernel) rfl ⟨rfl, rfl⟩ ⟨Nat.le_of_ble_eq_true rfl, Nat.le_of_ble_eq_true rfl⟩ (kd_lt kd_120 (by decide)) (ent_6 b cI cZ cO _ kd_120) rfl (Nat.le_of_ble_eq_true rfl) ⟨Nat.le_of_ble_eq_true rfl, Nat.le_of_ble_eq_true rfl⟩ dX11_match_39 rfl (fun H locs G => ?_)
    refine lv_goto (tgt := 54) hx hb dX11_match_42 (by decide) ?_
    exact retI C G hs dX11_match_54
def fX11_match (σ : Sg) (x1 : Int32) : Option (Int32 × Sg) :=
  (if x1 = (-1) then fX11_match_19 σ x1 else bi (fX2_isPerson σ x1) (fun r_6 σ_6 => (if r_6 = 0 then some ((-1000000001), σ_6) else fX11_match_19 σ_6 x1)))
set_option maxRecDepth 100000 in
set_option maxHeartbeats 4000000 in
theorem ctX11_match (l : Launch) {D : va_G} {cI cZ cO : ClassId} {b : Nat} {σ : Sg} {x1 : Int32} {Rr : (Int32 × Sg)} (hs : fX11_match σ x1 = some Rr) : MI l yX11_match cX11_match 2 (some .int) rmX11_match [.ref (b + 0), .int x1] b D cI cZ cO σ Rr := by
  unfold fX11_match at hs
  refine metI (by decide +kernel) (Nat.le_of_ble_eq_true rfl) (fun p e s m below meth c ls C G hl => ?_)
  have C : Cx p s m _ meth c cX11_match RX11 2 (some .int) D cI cZ cO := C
  have hx := C.1
  have hb := C.2.1
  have hl : lv_has ls 2 [(0, .ref (b + 0)), (1, .int x1)] := hl
  refine lv_iload_n hx hb dX11_match_0 rfl (lv_at hl 1 rfl) ?_
  refine lv_iconst (v := (-1)) hx hb dX11_match_1 (by decide) ?_
  refine lv_icmp_eq (tgt := 19) hx hb dX11_match_2 (by decide) (fun c_1 => ?_) (fun c_1 => ?_)
  · replace hs := ifT c_1 hs
    exact wX11_match_19 C   hs G (lv_sub hl [0, 1] rfl)
  · replace hs := ifF c_1 hs
    refine lv_aload_n hx hb dX11_match_5 rfl (lv_at hl 0 rfl) ?_
    refine gf_X11_19 C G kd_0 (n' := 3) rfl dX11_match_6 ?_
    refine lv_iload_n hx hb dX11_match_9 rfl (lv_at hl 1 rfl) ?_
    obtain ⟨r_6, σ_6, hc, hs⟩ := biE hs
    refine callVI (ar := 1) (As := [.int x1]) (rest := []) C G hl.1 (ctX2_isPerson _  hc) ⟨wd_589, wd_590, wd_591, wd_71, wd_592⟩ (by decide +kernel) rfl ⟨rfl, rfl⟩ ⟨Nat.le_of_ble_eq_true rfl, Nat.le_of_ble_eq_true rfl⟩ (kd_lt kd_3 (by decide)) (ent_2 b cI cZ cO _ kd_3) rfl (Nat.le_of_ble_eq_true rfl) ⟨Nat.le_of_ble_eq_true rfl, Nat.le_of_ble_eq_true rfl⟩ dX11_match_10 rfl (fun H locs G => ?_)
    refine lv_if_ne (tgt := 19) hx hb dX11_match_13 (by decide) (fun c_7 => ?_) (fun c_7 => ?_)
    · replace hs := ifF c_7 hs
      exact wX11_match_19 C   hs G (lv_sub hl [0, 1] rfl)
    · replace hs := ifT c_7 hs
      refine m_ldc C wd_593 dX11_match_16 ?_
      exact retI C G hs dX11_match_18
-- X11_shares
def rmX11_shares : Room := { frames := 4, cells := 0, slots := 0, locals := 102 }
def fX11_shares_25 (σ : Sg) : Option (Int32 × Sg) :=
  some ((-1000000002), σ)
set_option maxRecDepth 100000 in
set_option maxHeartbeats 4000000 in
theorem wX11_shares_25 {p : Program} {l : Launch} {e : Env} {s : State} {m : MethodId} {args : Array Value} {below : List Frame} {meth : Method} {c : Code} {D : va_G} {cI cZ cO : ClassId} {b : Nat} (C : Cx p s m args meth c cX11_shares RX11 3 (some .int) D cI cZ cO) {Rr : (Int32 × Sg)} {σ : Sg} {H : Heap} {locs : List Loc} {ls : Array Slot} (hs : fX11_shares_25 σ = some Rr) (G : Gd b D cI cZ cO σ s.heap H locs) (hl : lv_has ls 3 []) : W p l e rmX11_shares s m args below meth c H locs 0 0 (MQ below (QI b D cI cZ cO Rr) args s 0 0 (fun q => b ≤ q)) (F0 m 25 ls []) := by
  have hx := C.1
  have hb := C.2.1
  unfold fX11_shares_25 at hs
  refine m_ldc C wd_422 dX11_shares_25 ?_
  exact retI C G hs dX11_shares_27
def fX11_shares (σ : Sg) (x1 : Int32) (x2 : Int32) : Option (Int32 × Sg) :=
  bi (fX2_isVillage σ x2) (fun r_1 σ_1 => (if r_1 = 0 then some ((-1000000001), σ_1) else (if x1 < 0 then fX11_shares_25 σ_1 else (if x1 ≤ 999 then bi (fX2_shareOf σ_1 x1 x2) (fun r_5 σ_5 => some (r_5, σ_5)) else fX11_shares_25 σ_1))))
set_option maxRecDepth 100000 in
set_option maxHeartbeats 4000000 in
theorem ctX11_shares (l : Launch) {D : va_G} {cI cZ cO : ClassId} {b : Nat} {σ : Sg} {x1 : Int32} {x2 : Int32} {Rr : (Int32 × Sg)} (hs : fX11_shares σ x1 x2 = some Rr) : MI l yX11_shares cX11_shares 3 (some .int) rmX11_shares [.ref (b + 0), .int x1, .int x2] b D cI cZ cO σ Rr := by
  unfold fX11_shares at hs
  refine metI (by decide +kernel) (Nat.le_of_ble_eq_true rfl) (fun p e s m below meth c ls C G hl => ?_)
  have C : Cx p s m _ meth c cX11_shares RX11 3 (some .int) D cI cZ cO := C
  have hx := C.1
  have hb := C.2.1
  have hl : lv_has ls 3 [(0, .ref (b + 0)), (1, .int x1), (2, .int x2)] := hl
  refine lv_aload_n hx hb dX11_shares_0 rfl (lv_at hl 0 rfl) ?_
  refine gf_X11_19 C G kd_0 (n' := 3) rfl dX11_shares_1 ?_
  refine lv_iload_n hx hb dX11_shares_4 rfl (lv_at hl 2 rfl) ?_
  obtain ⟨r_1, σ_1, hc, hs⟩ := biE hs
  refine callVI (ar := 1) (As := [.int x2]) (rest := []) C G hl.1 (ctX2_isVillage _  hc) ⟨wd_629, wd_630, wd_631, wd_71, wd_632⟩ (by decide +kernel) rfl ⟨rfl, rfl⟩ ⟨Nat.le_of_ble_eq_true rfl, Nat.le_of_ble_eq_true rfl⟩ (kd_lt kd_3 (by decide)) (ent_2 b cI cZ cO _ kd_3) rfl (Nat.le_of_ble_eq_true rfl) ⟨Nat.le_of_ble_eq_true rfl, Nat.le_of_ble_eq_true rfl⟩ dX11_shares_5 rfl (fun H locs G => ?_)
  refine lv_if_ne (tgt := 14) hx hb dX11_shares_8 (by decide) (fun c_2 => ?_) (fun c_2 => ?_)
  · replace hs := ifF c_2 hs
    refine lv_iload_n hx hb dX11_shares_14 rfl (lv_at hl 1 rfl) ?_
    refine lv_if_lt (tgt := 25) hx hb dX11_shares_15 (by decide) (fun c_3 => ?_) (fun c_3 => ?_)
    · replace hs := ifT c_3 hs
      exact wX11_shares_25 C   hs G (lv_sub hl [] rfl)
    · replace hs := ifF c_3 hs
      refine lv_iload_n hx hb dX11_shares_18 rfl (lv_at hl 1 rfl) ?_
      refine lv_sipush (v := 999) hx hb dX11_shares_19 (by decide) ?_
      refine lv_icmp_le (tgt := 28) hx hb dX11_shares_22 (by decide) (fun c_4 => ?_) (fun c_4 => ?_)
      · replace hs := ifT c_4 hs
        refine lv_aload_n hx hb dX11_shares_28 rfl (lv_at hl 0 rfl) ?_
        refine gf_X11_19 C G kd_0 (n' := 3) rfl dX11_shares_29 ?_
        refine lv_iload_n hx hb dX11_shares_32 rfl (lv_at hl 1 rfl) ?_
        refine lv_iload_n hx hb dX11_shares_33 rfl (lv_at hl 2 rfl) ?_
        obtain ⟨r_5, σ_5, hc, hs⟩ := biE hs
        refine callVI (ar := 2) (As := [.int x1, .int x2]) (rest := []) C G hl.1 (ctX2_shareOf _  hc) ⟨wd_799, wd_800, wd_801, wd_71, wd_802⟩ (by decide +kernel) rfl ⟨rfl, rfl⟩ ⟨Nat.le_of_ble_eq_true rfl, Nat.le_of_ble_eq_true rfl⟩ (kd_lt kd_3 (by decide)) (ent_2 b cI cZ cO _ kd_3) rfl (Nat.le_of_ble_eq_true rfl) ⟨Nat.le_of_ble_eq_true rfl, Nat.le_of_ble_eq_true rfl⟩ dX11_shares_34 rfl (fun H locs G => ?_)
        exact retI C G hs dX11_shares_37
      · replace hs := ifF c_4 hs
        exact wX11_shares_25 C   hs G (lv_sub hl [] rfl)
  · replace hs := ifT c_2 hs
    refine m_ldc C wd_593 dX11_shares_11 ?_
    exact retI C G hs dX11_shares_13
-- X11_dry
def rmX11_dry : Room := { frames := 0, cells := 0, slots := 0, locals := 0 }
def fX11_dry_20 (σ : Sg) : Option (Int32 × Sg) :=
  some ((-1000000002), σ)
set_option maxRecDepth 100000 in
set_option maxHeartbeats 4000000 in
theorem wX11_dry_20 {p : Program} {l : Launch} {e : Env} {s : State} {m : MethodId} {args : Array Value} {below : List Frame} {meth : Method} {c : Code} {D : va_G} {cI cZ cO : ClassId} {b : Nat} (C : Cx p s m args meth c cX11_dry RX11 6 (some .int) D cI cZ cO) {Rr : (Int32 × Sg)} {σ : Sg} {H : Heap} {locs : List Loc} {ls : Array Slot} (hs : fX11_dry_20 σ = some Rr) (G : Gd b D cI cZ cO σ s.heap H locs) (hl : lv_has ls 6 []) : W p l e rmX11_dry s m args below meth c H locs 0 0 (MQ below (QI b D cI cZ cO Rr) args s 0 0 (fun q => b ≤ q)) (F0 m 20 ls []) := by
  have hx := C.1
  have hb := C.2.1
  unfold fX11_dry_20 at hs
  refine m_ldc C wd_422 dX11_dry_20 ?_
  exact retI C G hs dX11_dry_22
def fX11_dry_30b (kh : Sg → Int32 → Int32 → Int64 → Int32 → Option (Int32 × Sg)) (kx : Sg → Int64 → Option (Int32 × Sg)) (σ : Sg) (x1 : Int32) (x2 : Int32) (x3 : Int64) (x5 : Int32) : Option (Int32 × Sg) :=
  (if x1 ≤ x5 then kx σ x3 else lt ((x3 * x2.toInt64) / 100) (fun x3_6 => lt (x5 + 1) (fun x5_7 => kh σ x1 x2 x3_6 x5_7)))
set_option maxRecDepth 100000 in
set_option maxHeartbeats 4000000 in
theorem wX11_dry_30b {p : Program} {l : Launch} {e : Env} {s : State} {m : MethodId} {args : Array Value} {below : List Frame} {meth : Method} {c : Code} {D : va_G} {cI cZ cO : ClassId} {b : Nat} (C : Cx p s m args meth c cX11_dry RX11 6 (some .int) D cI cZ cO) {Rr : (Int32 × Sg)} {kh : Sg → Int32 → Int32 → Int64 → Int32 → Option (Int32 × Sg)} {kx : Sg → Int64 → Option (Int32 × Sg)} (hh : ∀ (σ : Sg) (x1 : Int32) (x2 : Int32) (x3 : Int64) (x5 : Int32) (H : Heap) (locs : List Loc) (ls : Array Slot), kh σ x1 x2 x3 x5 = some Rr → Gd b D cI cZ cO σ s.heap H locs → lv_has ls 6 [(1, .int x1), (2, .int x2), (3, .long x3), (5, .int x5)] → W p l e rmX11_dry s m args below meth c H locs 0 0 (MQ below (QI b D cI cZ cO Rr) args s 0 0 (fun q => b ≤ q)) (F0 m 30 ls [])) (hxx : ∀ (σ : Sg) (x3 : Int64) (H : Heap) (locs : List Loc) (ls : Array Slot), kx σ x3 = some Rr → Gd b D cI cZ cO σ s.heap H locs → lv_has ls 6 [(3, .long x3)] → W p l e rmX11_dry s m args below meth c H locs 0 0 (MQ below (QI b D cI cZ cO Rr) args s 0 0 (fun q => b ≤ q)) (F0 m 51 ls [])) {σ : Sg} {x1 : Int32} {x2 : Int32} {x3 : Int64} {x5 : Int32} {H : Heap} {locs : List Loc} {ls : Array Slot} (hs : fX11_dry_30b kh kx σ x1 x2 x3 x5 = some Rr) (G : Gd b D cI cZ cO σ s.heap H locs) (hl : lv_has ls 6 [(1, .int x1), (2, .int x2), (3, .long x3), (5, .int x5)]) : W p l e rmX11_dry s m args below meth c H locs 0 0 (MQ below (QI b D cI cZ cO Rr) args s 0 0 (fun q => b ≤ q)) (F0 m 30 ls []) := by
  have hx := C.1
  have hb := C.2.1
  unfold fX11_dry_30b at hs
  refine lv_iload hx hb dX11_dry_30 (lv_at hl 3 rfl) ?_
  refine lv_iload_n hx hb dX11_dry_32 rfl (lv_at hl 0 rfl) ?_
  refine lv_icmp_ge (tgt := 51) hx hb dX11_dry_33 (by decide) (fun c_5 => ?_) (fun c_5 => ?_)
  · replace hs := ifT c_5 hs
    exact hxx _ _ _ _ _ hs G (lv_sub hl [2] rfl)
  · replace hs := ifF c_5 hs
    refine lv_lload_n hx hb dX11_dry_36 rfl (lv_at hl 2 rfl) ?_
    refine lv_iload_n hx hb dX11_dry_37 rfl (lv_at hl 1 rfl) ?_
    refine lv_i2l hx hb dX11_dry_38 rfl ?_
    refine lv_lmul hx hb dX11_dry_39 ?_
    refine m_ldc2 C wd_820 dX11_dry_40 ?_
    refine lv_ldiv hx hb dX11_dry_43 (by decide) ?_
    refine topL hs (fun x3_6 hs => ?_)
    refine lv_lstore_n (lv' := [(3, .long x3_6), (1, .int x1), (2, .int x2), (5, .int x5)]) hx hb dX11_dry_44 rfl hl (by decide) rfl (fun ls hl => ?_)
    obtain ⟨x5_7, e_7, hs⟩ := ltE hs
    refine lv_iinc (v := x5_7) (lv' := [(5, .int x5_7), (3, .long x3_6), (1, .int x1), (2, .int x2)]) hx hb dX11_dry_45 hl (k := 3) rfl (by rw [e_7]; rfl) (by decide) rfl (fun ls hl => ?_)
    refine lv_goto (tgt := 30) hx hb dX11_dry_48 (by decide) ?_
    exact hh _ _ _ _ _ _ _ _ hs G (lv_sub hl [2, 3, 1, 0] rfl)
def fX11_dry_30 : Nat → (Sg → Int64 → Option (Int32 × Sg)) → Sg → Int32 → Int32 → Int64 → Int32 → Option (Int32 × Sg)
  | 0, _, _, _, _, _, _ => none
  | fu + 1, kx, σ, x1, x2, x3, x5 => fX11_dry_30b (fX11_dry_30 fu kx) kx σ x1 x2 x3 x5
theorem fX11_dry_30_s (fu : Nat) (kx : Sg → Int64 → Option (Int32 × Sg)) (σ : Sg) (x1 : Int32) (x2 : Int32) (x3 : Int64) (x5 : Int32) : fX11_dry_30 (fu + 1) kx σ x1 x2 x3 x5 = fX11_dry_30b (fX11_dry_30 fu kx) kx σ x1 x2 x3 x5 := by rw [fX11_dry_30]
theorem wX11_dry_30 {p : Program} {l : Launch} {e : Env} {s : State} {m : MethodId} {args : Array Value} {below : List Frame} {meth : Method} {c : Code} {D : va_G} {cI cZ cO : ClassId} {b : Nat} (C : Cx p s m args meth c cX11_dry RX11 6 (some .int) D cI cZ cO) {Rr : (Int32 × Sg)} {kx : Sg → Int64 → Option (Int32 × Sg)} (hxx : ∀ (σ : Sg) (x3 : Int64) (H : Heap) (locs : List Loc) (ls : Array Slot), kx σ x3 = some Rr → Gd b D cI cZ cO σ s.heap H locs → lv_has ls 6 [(3, .long x3)] → W p l e rmX11_dry s m args below meth c H locs 0 0 (MQ below (QI b D cI cZ cO Rr) args s 0 0 (fun q => b ≤ q)) (F0 m 51 ls [])) : ∀ (fu : Nat) (σ : Sg) (x1 : Int32) (x2 : Int32) (x3 : Int64) (x5 : Int32) (H : Heap) (locs : List Loc) (ls : Array Slot), fX11_dry_30 fu kx σ x1 x2 x3 x5 = some Rr → Gd b D cI cZ cO σ s.heap H locs → lv_has ls 6 [(1, .int x1), (2, .int x2), (3, .long x3), (5, .int x5)] → W p l e rmX11_dry s m args below meth c H locs 0 0 (MQ below (QI b D cI cZ cO Rr) args s 0 0 (fun q => b ≤ q)) (F0 m 30 ls []) := by
  intro fu
  induction fu with
  | zero => intro σ x1 x2 x3 x5 H locs ls hs; cases hs
  | succ fu ih =>
    intro σ x1 x2 x3 x5 H locs ls hs G hl
    exact wX11_dry_30b C (fun σ x1 x2 x3 x5 H locs ls hs G hl => ih σ x1 x2 x3 x5 H locs ls hs G hl) hxx hs G hl
def fX11_dry (σ : Sg) (x1 : Int32) (x2 : Int32) : Option (Int32 × Sg) :=
  (if x1 < 0 then fX11_dry_20 σ else (if 60 < x1 then fX11_dry_20 σ else (if x2 < 0 then fX11_dry_20 σ else (if x2 ≤ 100 then fX11_dry_30 FU (fun σ_8 x3_8 => some (x3_8.toInt32, σ_8)) σ x1 x2 1000000000 0 else fX11_dry_20 σ))))
set_option maxRecDepth 100000 in
set_option maxHeartbeats 4000000 in
theorem ctX11_dry (l : Launch) {D : va_G} {cI cZ cO : ClassId} {b : Nat} {σ : Sg} {x1 : Int32} {x2 : Int32} {Rr : (Int32 × Sg)} (hs : fX11_dry σ x1 x2 = some Rr) : MI l yX11_dry cX11_dry 6 (some .int) rmX11_dry [.ref (b + 0), .int x1, .int x2] b D cI cZ cO σ Rr := by
  unfold fX11_dry at hs
  refine metI (by decide +kernel) (Nat.le_of_ble_eq_true rfl) (fun p e s m below meth c ls C G hl => ?_)
  have C : Cx p s m _ meth c cX11_dry RX11 6 (some .int) D cI cZ cO := C
  have hx := C.1
  have hb := C.2.1
  have hl : lv_has ls 6 [(0, .ref (b + 0)), (1, .int x1), (2, .int x2)] := hl
  refine lv_iload_n hx hb dX11_dry_0 rfl (lv_at hl 1 rfl) ?_
  refine lv_if_lt (tgt := 20) hx hb dX11_dry_1 (by decide) (fun c_1 => ?_) (fun c_1 => ?_)
  · replace hs := ifT c_1 hs
    exact wX11_dry_20 C   hs G (lv_sub hl [] rfl)
  · replace hs := ifF c_1 hs
    refine lv_iload_n hx hb dX11_dry_4 rfl (lv_at hl 1 rfl) ?_
    refine lv_bipush (v := 60) hx hb dX11_dry_5 (by decide) ?_
    refine lv_icmp_gt (tgt := 20) hx hb dX11_dry_7 (by decide) (fun c_2 => ?_) (fun c_2 => ?_)
    · replace hs := ifT c_2 hs
      exact wX11_dry_20 C   hs G (lv_sub hl [] rfl)
    · replace hs := ifF c_2 hs
      refine lv_iload_n hx hb dX11_dry_10 rfl (lv_at hl 2 rfl) ?_
      refine lv_if_lt (tgt := 20) hx hb dX11_dry_11 (by decide) (fun c_3 => ?_) (fun c_3 => ?_)
      · replace hs := ifT c_3 hs
        exact wX11_dry_20 C   hs G (lv_sub hl [] rfl)
      · replace hs := ifF c_3 hs
        refine lv_iload_n hx hb dX11_dry_14 rfl (lv_at hl 2 rfl) ?_
        refine lv_bipush (v := 100) hx hb dX11_dry_15 (by decide) ?_
        refine lv_icmp_le (tgt := 23) hx hb dX11_dry_17 (by decide) (fun c_4 => ?_) (fun c_4 => ?_)
        · replace hs := ifT c_4 hs
          refine m_ldc2 C wd_819 dX11_dry_23 ?_
          refine lv_lstore_n (lv' := [(3, .long 1000000000), (0, .ref (b + 0)), (1, .int x1), (2, .int x2)]) hx hb dX11_dry_26 rfl hl (by decide) rfl (fun ls hl => ?_)
          refine lv_iconst (v := 0) hx hb dX11_dry_27 (by decide) ?_
          refine lv_istore (lv' := [(5, .int 0), (3, .long 1000000000), (0, .ref (b + 0)), (1, .int x1), (2, .int x2)]) hx hb dX11_dry_28 hl (by decide) rfl (fun ls hl => ?_)
          refine wX11_dry_30 C (fun σ_8 x3_8 H locs ls hs G hl => ?_) FU _ _ _ _ _ _ _ _ hs G (lv_sub hl [3, 4, 1, 0] rfl)
          refine lv_lload_n hx hb dX11_dry_51 rfl (lv_at hl 0 rfl) ?_
          refine lv_l2i hx hb dX11_dry_52 rfl ?_
          exact retI C G hs dX11_dry_53
        · replace hs := ifF c_4 hs
          exact wX11_dry_20 C   hs G (lv_sub hl [] rfl)
-- X11_returned
def rmX11_returned : Room := { frames := 2, cells := 0, slots := 0, locals := 52 }
def fX11_returned_11 (σ : Sg) : Option (Int32 × Sg) :=
  some ((-1000000002), σ)
set_option maxRecDepth 100000 in
set_option maxHeartbeats 4000000 in
theorem wX11_returned_11 {p : Program} {l : Launch} {e : Env} {s : State} {m : MethodId} {args : Array Value} {below : List Frame} {meth : Method} {c : Code} {D : va_G} {cI cZ cO : ClassId} {b : Nat} (C : Cx p s m args meth c cX11_returned RX11 2 (some .int) D cI cZ cO) {Rr : (Int32 × Sg)} {σ : Sg} {H : Heap} {locs : List Loc} {ls : Array Slot} (hs : fX11_returned_11 σ = some Rr) (G : Gd b D cI cZ cO σ s.heap H locs) (hl : lv_has ls 2 []) : W p l e rmX11_returned s m args below meth c H locs 0 0 (MQ below (QI b D cI cZ cO Rr) args s 0 0 (fun q => b ≤ q)) (F0 m 11 ls []) := by
  have hx := C.1
  have hb := C.2.1
  unfold fX11_returned_11 at hs
  refine m_ldc C wd_422 dX11_returned_11 ?_
  exact retI C G hs dX11_returned_13
def fX11_returned (σ : Sg) (x1 : Int32) : Option (Int32 × Sg) :=
  (if x1 < 0 then fX11_returned_11 σ else (if x1 ≤ 999 then gk 4 (dn (σ 3 0)) (fun n_3 => (if (σ n_3 0) = 0 then some ((-1000000003), σ) else (if (σ 114 0) < 6 then bv (fX9_add 15 σ x1) (fun σ_6 => some ((σ_6 114 0), σ_6)) else some ((-1000000004), σ)))) else fX11_returned_11 σ))
set_option maxRecDepth 100000 in
set_option maxHeartbeats 4000000 in
theorem ctX11_returned (l : Launch) {D : va_G} {cI cZ cO : ClassId} {b : Nat} {σ : Sg} {x1 : Int32} {Rr : (Int32 × Sg)} (hs : fX11_returned σ x1 = some Rr) : MI l yX11_returned cX11_returned 2 (some .int) rmX11_returned [.ref (b + 0), .int x1] b D cI cZ cO σ Rr := by
  unfold fX11_returned at hs
  refine metI (by decide +kernel) (Nat.le_of_ble_eq_true rfl) (fun p e s m below meth c ls C G hl => ?_)
  have C : Cx p s m _ meth c cX11_returned RX11 2 (some .int) D cI cZ cO := C
  have hx := C.1
  have hb := C.2.1
  have hl : lv_has ls 2 [(0, .ref (b + 0)), (1, .int x1)] := hl
  refine lv_iload_n hx hb dX11_returned_0 rfl (lv_at hl 1 rfl) ?_
  refine lv_if_lt (tgt := 11) hx hb dX11_returned_1 (by decide) (fun c_1 => ?_) (fun c_1 => ?_)
  · replace hs := ifT c_1 hs
    exact wX11_returned_11 C   hs G (lv_sub hl [] rfl)
  · replace hs := ifF c_1 hs
    refine lv_iload_n hx hb dX11_returned_4 rfl (lv_at hl 1 rfl) ?_
    refine lv_sipush (v := 999) hx hb dX11_returned_5 (by decide) ?_
    refine lv_icmp_le (tgt := 14) hx hb dX11_returned_8 (by decide) (fun c_2 => ?_) (fun c_2 => ?_)
    · replace hs := ifT c_2 hs
      refine lv_aload_n hx hb dX11_returned_14 rfl (lv_at hl 0 rfl) ?_
      refine gf_X11_19 C G kd_0 (n' := 3) rfl dX11_returned_15 ?_
      obtain ⟨n_3, en_3, hk_3, hs⟩ := gkE hs
      refine gf_X11_89 C G kd_3 en_3 dX11_returned_18 ?_
      refine gf_X11_275 C G hk_3 dX11_returned_21 ?_
      refine lv_if_ne (tgt := 30) hx hb dX11_returned_24 (by decide) (fun c_4 => ?_) (fun c_4 => ?_)
      · replace hs := ifF c_4 hs
        refine lv_aload_n hx hb dX11_returned_30 rfl (lv_at hl 0 rfl) ?_
        refine gf_X11_47 C G kd_0 (n' := 114) rfl dX11_returned_31 ?_
        refine gf_X11_105 C G kd_114 dX11_returned_34 ?_
        refine lv_bipush (v := 6) hx hb dX11_returned_37 (by decide) ?_
        refine lv_icmp_lt (tgt := 45) hx hb dX11_returned_39 (by decide) (fun c_5 => ?_) (fun c_5 => ?_)
        · replace hs := ifT c_5 hs
          refine lv_aload_n hx hb dX11_returned_45 rfl (lv_at hl 0 rfl) ?_
          refine gf_X11_47 C G kd_0 (n' := 114) rfl dX11_returned_46 ?_
          refine lv_iload_n hx hb dX11_returned_49 rfl (lv_at hl 1 rfl) ?_
          refine lv_aload_n hx hb dX11_returned_50 rfl (lv_at hl 0 rfl) ?_
          refine gf_X11_19 C G kd_0 (n' := 3) rfl dX11_returned_51 ?_
          refine gf_X11_92 C G kd_3 (n' := 11) rfl dX11_returned_54 ?_
          refine gf_X11_198 C G kd_11 (n' := 15) rfl dX11_returned_57 ?_
          obtain ⟨σ_6, hc, hs⟩ := bvE hs
          refine callVV (ar := 2) (As := [.int x1, .ref (b + 15)]) (rest := []) C G hl.1 (ctX9_add _ kd_15 hc) ⟨wd_825, wd_826, wd_827, wd_78, wd_828⟩ (by decide +kernel) rfl ⟨rfl, rfl⟩ ⟨Nat.le_of_ble_eq_true rfl, Nat.le_of_ble_eq_true rfl⟩ (kd_lt kd_114 (by decide)) (ent_9 b cI cZ cO _ kd_114) rfl (Nat.le_of_ble_eq_true rfl) ⟨Nat.le_of_ble_eq_true rfl, Nat.le_of_ble_eq_true rfl⟩ dX11_returned_60 rfl (fun H locs G => ?_)
          refine lv_aload_n hx hb dX11_returned_63 rfl (lv_at hl 0 rfl) ?_
          refine gf_X11_47 C G kd_0 (n' := 114) rfl dX11_returned_64 ?_
          refine gf_X11_105 C G kd_114 dX11_returned_67 ?_
          exact retI C G hs dX11_returned_70
        · replace hs := ifF c_5 hs
          refine m_ldc C wd_423 dX11_returned_42 ?_
          exact retI C G hs dX11_returned_44
      · replace hs := ifT c_4 hs
        refine m_ldc C wd_674 dX11_returned_27 ?_
        exact retI C G hs dX11_returned_29
    · replace hs := ifF c_2 hs
      exact wX11_returned_11 C   hs G (lv_sub hl [] rfl)
-- X11_write
def rmX11_write : Room := { frames := 1, cells := 0, slots := 0, locals := 22 }
def fX11_write_25 (σ : Sg) : Option (Int32 × Sg) :=
  some ((-1000000002), σ)
set_option maxRecDepth 100000 in
set_option maxHeartbeats 4000000 in
theorem wX11_write_25 {p : Program} {l : Launch} {e : Env} {s : State} {m : MethodId} {args : Array Value} {below : List Frame} {meth : Method} {c : Code} {D : va_G} {cI cZ cO : ClassId} {b : Nat} (C : Cx p s m args meth c cX11_write RX11 3 (some .int) D cI cZ cO) {Rr : (Int32 × Sg)} {σ : Sg} {H : Heap} {locs : List Loc} {ls : Array Slot} (hs : fX11_write_25 σ = some Rr) (G : Gd b D cI cZ cO σ s.heap H locs) (hl : lv_has ls 3 []) : W p l e rmX11_write s m args below meth c H locs 0 0 (MQ below (QI b D cI cZ cO Rr) args s 0 0 (fun q => b ≤ q)) (F0 m 25 ls []) := by
  have hx := C.1
  have hb := C.2.1
  unfold fX11_write_25 at hs
  refine m_ldc C wd_422 dX11_write_25 ?_
  exact retI C G hs dX11_write_27
def fX11_write (σ : Sg) (x1 : Int32) (x2 : Int32) : Option (Int32 × Sg) :=
  bi (fX2_isPerson σ x1) (fun r_1 σ_1 => (if r_1 = 0 then some ((-1000000001), σ_1) else (if x2 < 0 then fX11_write_25 σ_1 else (if x2 ≤ 9999 then (if (σ_1 117 0) < 15 then bv (fX1_add σ_1 x1 x2) (fun σ_6 => some ((σ_6 117 0), σ_6)) else some ((-1000000004), σ_1)) else fX11_write_25 σ_1))))
set_option maxRecDepth 100000 in
set_option maxHeartbeats 4000000 in
theorem ctX11_write (l : Launch) {D : va_G} {cI cZ cO : ClassId} {b : Nat} {σ : Sg} {x1 : Int32} {x2 : Int32} {Rr : (Int32 × Sg)} (hs : fX11_write σ x1 x2 = some Rr) : MI l yX11_write cX11_write 3 (some .int) rmX11_write [.ref (b + 0), .int x1, .int x2] b D cI cZ cO σ Rr := by
  unfold fX11_write at hs
  refine metI (by decide +kernel) (Nat.le_of_ble_eq_true rfl) (fun p e s m below meth c ls C G hl => ?_)
  have C : Cx p s m _ meth c cX11_write RX11 3 (some .int) D cI cZ cO := C
  have hx := C.1
  have hb := C.2.1
  have hl : lv_has ls 3 [(0, .ref (b + 0)), (1, .int x1), (2, .int x2)] := hl
  refine lv_aload_n hx hb dX11_write_0 rfl (lv_at hl 0 rfl) ?_
  refine gf_X11_19 C G kd_0 (n' := 3) rfl dX11_write_1 ?_
  refine lv_iload_n hx hb dX11_write_4 rfl (lv_at hl 1 rfl) ?_
  obtain ⟨r_1, σ_1, hc, hs⟩ := biE hs
  refine callVI (ar := 1) (As := [.int x1]) (rest := []) C G hl.1 (ctX2_isPerson _  hc) ⟨wd_589, wd_590, wd_591, wd_71, wd_592⟩ (by decide +kernel) rfl ⟨rfl, rfl⟩ ⟨Nat.le_of_ble_eq_true rfl, Nat.le_of_ble_eq_true rfl⟩ (kd_lt kd_3 (by decide)) (ent_2 b cI cZ cO _ kd_3) rfl (Nat.le_of_ble_eq_true rfl) ⟨Nat.le_of_ble_eq_true rfl, Nat.le_of_ble_eq_true rfl⟩ dX11_write_5 rfl (fun H locs G => ?_)
  refine lv_if_ne (tgt := 14) hx hb dX11_write_8 (by decide) (fun c_2 => ?_) (fun c_2 => ?_)
  · replace hs := ifF c_2 hs
    refine lv_iload_n hx hb dX11_write_14 rfl (lv_at hl 2 rfl) ?_
    refine lv_if_lt (tgt := 25) hx hb dX11_write_15 (by decide) (fun c_3 => ?_) (fun c_3 => ?_)
    · replace hs := ifT c_3 hs
      exact wX11_write_25 C   hs G (lv_sub hl [] rfl)
    · replace hs := ifF c_3 hs
      refine lv_iload_n hx hb dX11_write_18 rfl (lv_at hl 2 rfl) ?_
      refine lv_sipush (v := 9999) hx hb dX11_write_19 (by decide) ?_
      refine lv_icmp_le (tgt := 28) hx hb dX11_write_22 (by decide) (fun c_4 => ?_) (fun c_4 => ?_)
      · replace hs := ifT c_4 hs
        refine lv_aload_n hx hb dX11_write_28 rfl (lv_at hl 0 rfl) ?_
        refine gf_X11_54 C G kd_0 (n' := 117) rfl dX11_write_29 ?_
        refine gf_X11_108 C G kd_117 dX11_write_32 ?_
        refine lv_bipush (v := 15) hx hb dX11_write_35 (by decide) ?_
        refine lv_icmp_lt (tgt := 43) hx hb dX11_write_37 (by decide) (fun c_5 => ?_) (fun c_5 => ?_)
        · replace hs := ifT c_5 hs
          refine lv_aload_n hx hb dX11_write_43 rfl (lv_at hl 0 rfl) ?_
          refine gf_X11_54 C G kd_0 (n' := 117) rfl dX11_write_44 ?_
          refine lv_iload_n hx hb dX11_write_47 rfl (lv_at hl 1 rfl) ?_
          refine lv_iload_n hx hb dX11_write_48 rfl (lv_at hl 2 rfl) ?_
          obtain ⟨σ_6, hc, hs⟩ := bvE hs
          refine callVV (ar := 2) (As := [.int x1, .int x2]) (rest := []) C G hl.1 (ctX1_add _  hc) ⟨wd_834, wd_835, wd_836, wd_79, wd_837⟩ (by decide +kernel) rfl ⟨rfl, rfl⟩ ⟨Nat.le_of_ble_eq_true rfl, Nat.le_of_ble_eq_true rfl⟩ (kd_lt kd_117 (by decide)) (ent_1 b cI cZ cO _ kd_117) rfl (Nat.le_of_ble_eq_true rfl) ⟨Nat.le_of_ble_eq_true rfl, Nat.le_of_ble_eq_true rfl⟩ dX11_write_49 rfl (fun H locs G => ?_)
          refine lv_aload_n hx hb dX11_write_52 rfl (lv_at hl 0 rfl) ?_
          refine gf_X11_54 C G kd_0 (n' := 117) rfl dX11_write_53 ?_
          refine gf_X11_108 C G kd_117 dX11_write_56 ?_
          exact retI C G hs dX11_write_59
        · replace hs := ifF c_5 hs
          refine m_ldc C wd_423 dX11_write_40 ?_
          exact retI C G hs dX11_write_42
      · replace hs := ifF c_4 hs
        exact wX11_write_25 C   hs G (lv_sub hl [] rfl)
  · replace hs := ifT c_2 hs
    refine m_ldc C wd_593 dX11_write_11 ?_
    exact retI C G hs dX11_write_13
-- X11_tear
def rmX11_tear : Room := { frames := 0, cells := 0, slots := 0, locals := 0 }
def fX11_tear (σ : Sg) : Option (Int32 × Sg) :=
  lt ((σ 114 0) + (σ 117 0)) (fun x1_1 => lt (st σ 114 0 0) (fun σ_2 => lt (st σ_2 117 0 0) (fun σ_3 => some (x1_1, σ_3))))
set_option maxRecDepth 100000 in
set_option maxHeartbeats 4000000 in
theorem ctX11_tear (l : Launch) {D : va_G} {cI cZ cO : ClassId} {b : Nat} {σ : Sg} {Rr : (Int32 × Sg)} (hs : fX11_tear σ = some Rr) : MI l yX11_tear cX11_tear 2 (some .int) rmX11_tear [.ref (b + 0)] b D cI cZ cO σ Rr := by
  unfold fX11_tear at hs
  refine metI (by decide +kernel) (Nat.le_of_ble_eq_true rfl) (fun p e s m below meth c ls C G hl => ?_)
  have C : Cx p s m _ meth c cX11_tear RX11 2 (some .int) D cI cZ cO := C
  have hx := C.1
  have hb := C.2.1
  have hl : lv_has ls 2 [(0, .ref (b + 0))] := hl
  refine lv_aload_n hx hb dX11_tear_0 rfl (lv_at hl 0 rfl) ?_
  refine gf_X11_47 C G kd_0 (n' := 114) rfl dX11_tear_1 ?_
  refine gf_X11_105 C G kd_114 dX11_tear_4 ?_
  refine lv_aload_n hx hb dX11_tear_7 rfl (lv_at hl 0 rfl) ?_
  refine gf_X11_54 C G kd_0 (n' := 117) rfl dX11_tear_8 ?_
  refine gf_X11_108 C G kd_117 dX11_tear_11 ?_
  refine lv_iadd hx hb dX11_tear_14 ?_
  refine topI hs (fun x1_1 hs => ?_)
  refine lv_istore_n (lv' := [(1, .int x1_1), (0, .ref (b + 0))]) hx hb dX11_tear_15 rfl hl (by decide) rfl (fun ls hl => ?_)
  refine lv_aload_n hx hb dX11_tear_16 rfl (lv_at hl 1 rfl) ?_
  refine gf_X11_47 C G kd_0 (n' := 114) rfl dX11_tear_17 ?_
  refine lv_iconst (v := 0) hx hb dX11_tear_20 (by decide) ?_
  refine pf_X11_105 C G kd_114 hs dX11_tear_21 (fun σ_2 H locs hs G => ?_)
  refine lv_aload_n hx hb dX11_tear_24 rfl (lv_at hl 1 rfl) ?_
  refine gf_X11_54 C G kd_0 (n' := 117) rfl dX11_tear_25 ?_
  refine lv_iconst (v := 0) hx hb dX11_tear_28 (by decide) ?_
  refine pf_X11_108 C G kd_117 hs dX11_tear_29 (fun σ_3 H locs hs G => ?_)
  refine lv_iload_n hx hb dX11_tear_32 rfl (lv_at hl 0 rfl) ?_
  exact retI C G hs dX11_tear_33
-- X11_judge
def rmX11_judge : Room := { frames := 1, cells := 0, slots := 0, locals := 22 }
def fX11_judge (σ : Sg) : Option (Int32 × Sg) :=
  bi (fX1_firstFalse 13 σ) (fun r_1 σ_1 => some (r_1, σ_1))
set_option maxRecDepth 100000 in
set_option maxHeartbeats 4000000 in
theorem ctX11_judge (l : Launch) {D : va_G} {cI cZ cO : ClassId} {b : Nat} {σ : Sg} {Rr : (Int32 × Sg)} (hs : fX11_judge σ = some Rr) : MI l yX11_judge cX11_judge 1 (some .int) rmX11_judge [.ref (b + 0)] b D cI cZ cO σ Rr := by
  unfold fX11_judge at hs
  refine metI (by decide +kernel) (Nat.le_of_ble_eq_true rfl) (fun p e s m below meth c ls C G hl => ?_)
  have C : Cx p s m _ meth c cX11_judge RX11 1 (some .int) D cI cZ cO := C
  have hx := C.1
  have hb := C.2.1
  have hl : lv_has ls 1 [(0, .ref (b + 0))] := hl
  refine lv_aload_n hx hb dX11_judge_0 rfl (lv_at hl 0 rfl) ?_
  refine gf_X11_54 C G kd_0 (n' := 117) rfl dX11_judge_1 ?_
  refine lv_aload_n hx hb dX11_judge_4 rfl (lv_at hl 0 rfl) ?_
  refine gf_X11_19 C G kd_0 (n' := 3) rfl dX11_judge_5 ?_
  refine gf_X11_92 C G kd_3 (n' := 11) rfl dX11_judge_8 ?_
  refine gf_X11_182 C G kd_11 (n' := 13) rfl dX11_judge_11 ?_
  obtain ⟨r_1, σ_1, hc, hs⟩ := biE hs
  refine callVI (ar := 1) (As := [.ref (b + 13)]) (rest := []) C G hl.1 (ctX1_firstFalse _ kd_13 hc) ⟨wd_846, wd_847, wd_848, wd_79, wd_849⟩ (by decide +kernel) rfl ⟨rfl, rfl⟩ ⟨Nat.le_of_ble_eq_true rfl, Nat.le_of_ble_eq_true rfl⟩ (kd_lt kd_117 (by decide)) (ent_1 b cI cZ cO _ kd_117) rfl (Nat.le_of_ble_eq_true rfl) ⟨Nat.le_of_ble_eq_true rfl, Nat.le_of_ble_eq_true rfl⟩ dX11_judge_14 rfl (fun H locs G => ?_)
  exact retI C G hs dX11_judge_17
-- X11_seed
def rmX11_seed : Room := { frames := 0, cells := 0, slots := 0, locals := 0 }
def fX11_seed (σ : Sg) (x1 : Int32) : Option (Int32 × Sg) :=
  (if 0 ≤ x1 then lt (σ 113 0) (fun x2_2 => lt (st σ 113 0 x1) (fun σ_3 => some (x2_2, σ_3))) else some ((-1000000002), σ))
set_option maxRecDepth 100000 in
set_option maxHeartbeats 4000000 in
theorem ctX11_seed (l : Launch) {D : va_G} {cI cZ cO : ClassId} {b : Nat} {σ : Sg} {x1 : Int32} {Rr : (Int32 × Sg)} (hs : fX11_seed σ x1 = some Rr) : MI l yX11_seed cX11_seed 3 (some .int) rmX11_seed [.ref (b + 0), .int x1] b D cI cZ cO σ Rr := by
  unfold fX11_seed at hs
  refine metI (by decide +kernel) (Nat.le_of_ble_eq_true rfl) (fun p e s m below meth c ls C G hl => ?_)
  have C : Cx p s m _ meth c cX11_seed RX11 3 (some .int) D cI cZ cO := C
  have hx := C.1
  have hb := C.2.1
  have hl : lv_has ls 3 [(0, .ref (b + 0)), (1, .int x1)] := hl
  refine lv_iload_n hx hb dX11_seed_0 rfl (lv_at hl 1 rfl) ?_
  refine lv_if_ge (tgt := 7) hx hb dX11_seed_1 (by decide) (fun c_1 => ?_) (fun c_1 => ?_)
  · replace hs := ifT c_1 hs
    refine lv_aload_n hx hb dX11_seed_7 rfl (lv_at hl 0 rfl) ?_
    refine gf_X11_40 C G kd_0 (n' := 113) rfl dX11_seed_8 ?_
    refine gf_X11_289 C G kd_113 dX11_seed_11 ?_
    refine topI hs (fun x2_2 hs => ?_)
    refine lv_istore_n (lv' := [(2, .int x2_2), (0, .ref (b + 0)), (1, .int x1)]) hx hb dX11_seed_14 rfl hl (by decide) rfl (fun ls hl => ?_)
    refine lv_aload_n hx hb dX11_seed_15 rfl (lv_at hl 1 rfl) ?_
    refine gf_X11_40 C G kd_0 (n' := 113) rfl dX11_seed_16 ?_
    refine lv_iload_n hx hb dX11_seed_19 rfl (lv_at hl 2 rfl) ?_
    refine pf_X11_289 C G kd_113 hs dX11_seed_20 (fun σ_3 H locs hs G => ?_)
    refine lv_iload_n hx hb dX11_seed_23 rfl (lv_at hl 0 rfl) ?_
    exact retI C G hs dX11_seed_24
  · replace hs := ifF c_1 hs
    refine m_ldc C wd_422 dX11_seed_4 ?_
    exact retI C G hs dX11_seed_6
-- X11_keep
def rmX11_keep : Room := { frames := 3, cells := 0, slots := 0, locals := 74 }
def fX11_keep_9 (σ : Sg) : Option (Int32 × Sg) :=
  some ((-1000000001), σ)
set_option maxRecDepth 100000 in
set_option maxHeartbeats 4000000 in
theorem wX11_keep_9 {p : Program} {l : Launch} {e : Env} {s : State} {m : MethodId} {args : Array Value} {below : List Frame} {meth : Method} {c : Code} {D : va_G} {cI cZ cO : ClassId} {b : Nat} (C : Cx p s m args meth c cX11_keep RX11 2 (some .int) D cI cZ cO) {Rr : (Int32 × Sg)} {σ : Sg} {H : Heap} {locs : List Loc} {ls : Array Slot} (hs : fX11_keep_9 σ = some Rr) (G : Gd b D cI cZ cO σ s.heap H locs) (hl : lv_has ls 2 []) : W p l e rmX11_keep s m args below meth c H locs 0 0 (MQ below (QI b D cI cZ cO Rr) args s 0 0 (fun q => b ≤ q)) (F0 m 9 ls []) := by
  have hx := C.1
  have hb := C.2.1
  unfold fX11_keep_9 at hs
  refine m_ldc C wd_593 dX11_keep_9 ?_
  exact retI C G hs dX11_keep_11
def fX11_keep (σ : Sg) (x1 : Int32) : Option (Int32 × Sg) :=
  (if x1 < 0 then fX11_keep_9 σ else (if x1 < 2 then bv (fX5_take 11 σ x1 (σ 113 0)) (fun σ_3 => bv (fX7_forget σ_3) (fun σ_4 => some (1, σ_4))) else fX11_keep_9 σ))
set_option maxRecDepth 100000 in
set_option maxHeartbeats 4000000 in
theorem ctX11_keep (l : Launch) {D : va_G} {cI cZ cO : ClassId} {b : Nat} {σ : Sg} {x1 : Int32} {Rr : (Int32 × Sg)} (hs : fX11_keep σ x1 = some Rr) : MI l yX11_keep cX11_keep 2 (some .int) rmX11_keep [.ref (b + 0), .int x1] b D cI cZ cO σ Rr := by
  unfold fX11_keep at hs
  refine metI (by decide +kernel) (Nat.le_of_ble_eq_true rfl) (fun p e s m below meth c ls C G hl => ?_)
  have C : Cx p s m _ meth c cX11_keep RX11 2 (some .int) D cI cZ cO := C
  have hx := C.1
  have hb := C.2.1
  have hl : lv_has ls 2 [(0, .ref (b + 0)), (1, .int x1)] := hl
  refine lv_iload_n hx hb dX11_keep_0 rfl (lv_at hl 1 rfl) ?_
  refine lv_if_lt (tgt := 9) hx hb dX11_keep_1 (by decide) (fun c_1 => ?_) (fun c_1 => ?_)
  · replace hs := ifT c_1 hs
    exact wX11_keep_9 C   hs G (lv_sub hl [] rfl)
  · replace hs := ifF c_1 hs
    refine lv_iload_n hx hb dX11_keep_4 rfl (lv_at hl 1 rfl) ?_
    refine lv_iconst (v := 2) hx hb dX11_keep_5 (by decide) ?_
    refine lv_icmp_lt (tgt := 12) hx hb dX11_keep_6 (by decide) (fun c_2 => ?_) (fun c_2 => ?_)
    · replace hs := ifT c_2 hs
      refine lv_aload_n hx hb dX11_keep_12 rfl (lv_at hl 0 rfl) ?_
      refine gf_X11_33 C G kd_0 (n' := 99) rfl dX11_keep_13 ?_
      refine lv_iload_n hx hb dX11_keep_16 rfl (lv_at hl 1 rfl) ?_
      refine lv_aload_n hx hb dX11_keep_17 rfl (lv_at hl 0 rfl) ?_
      refine gf_X11_19 C G kd_0 (n' := 3) rfl dX11_keep_18 ?_
      refine gf_X11_92 C G kd_3 (n' := 11) rfl dX11_keep_21 ?_
      refine lv_aload_n hx hb dX11_keep_24 rfl (lv_at hl 0 rfl) ?_
      refine gf_X11_40 C G kd_0 (n' := 113) rfl dX11_keep_25 ?_
      refine gf_X11_289 C G kd_113 dX11_keep_28 ?_
      obtain ⟨σ_3, hc, hs⟩ := bvE hs
      refine callVV (ar := 3) (As := [.int x1, .ref (b + 11), .int (σ 113 0)]) (rest := []) C G hl.1 (ctX5_take _ kd_11 hc) ⟨wd_858, wd_859, wd_860, wd_76, wd_861⟩ (by decide +kernel) rfl ⟨rfl, rfl⟩ ⟨Nat.le_of_ble_eq_true rfl, Nat.le_of_ble_eq_true rfl⟩ (kd_lt kd_99 (by decide)) (ent_5 b cI cZ cO _ kd_99) rfl (Nat.le_of_ble_eq_true rfl) ⟨Nat.le_of_ble_eq_true rfl, Nat.le_of_ble_eq_true rfl⟩ dX11_keep_31 rfl (fun H locs G => ?_)
      refine lv_aload_n hx hb dX11_keep_34 rfl (lv_at hl 0 rfl) ?_
      refine gf_X11_26 C G kd_0 (n' := 17) rfl dX11_keep_35 ?_
      obtain ⟨σ_4, hc, hs⟩ := bvE hs
      refine callVV (ar := 0) (As := []) (rest := []) C G hl.1 (ctX7_forget _  hc) ⟨wd_505, wd_506, wd_507, wd_75, wd_508⟩ (by decide +kernel) rfl ⟨rfl, rfl⟩ ⟨Nat.le_of_ble_eq_true rfl, Nat.le_of_ble_eq_true rfl⟩ (kd_lt kd_17 (by decide)) (ent_7 b cI cZ cO _ kd_17) rfl (Nat.le_of_ble_eq_true rfl) ⟨Nat.le_of_ble_eq_true rfl, Nat.le_of_ble_eq_true rfl⟩ dX11_keep_38 rfl (fun H locs G => ?_)
      refine lv_iconst (v := 1) hx hb dX11_keep_41 (by decide) ?_
      exact retI C G hs dX11_keep_42
    · replace hs := ifF c_2 hs
      exact wX11_keep_9 C   hs G (lv_sub hl [] rfl)
