-- X12_drift
def rmX12_drift : Room := { frames := 4, cells := 0, slots := 0, locals := 97 }
def fX12_drift_62 (kh : Sg → Int32 → Int32 → Option (Int32 × Sg)) (kx : Sg → Option (Int32 × Sg)) (σ : Sg) (x1 : Int32) (x2 : Int32) : Option (Int32 × Sg) :=
  bv (fX12_yearOf σ 0) (fun σ_10 => lt (x2 + 1) (fun x2_11 => kh σ_10 x1 x2_11))
set_option maxRecDepth 100000 in
set_option maxHeartbeats 4000000 in
theorem wX12_drift_62 {p : Program} {l : Launch} {e : Env} {s : State} {m : MethodId} {args : Array Value} {below : List Frame} {meth : Method} {c : Code} {D : va_G} {cI cZ cO : ClassId} {b : Nat} (C : Cx p s m args meth c cX12_drift RX12 3 (some .int) D cI cZ cO) {Rr : (Int32 × Sg)} {kh : Sg → Int32 → Int32 → Option (Int32 × Sg)} {kx : Sg → Option (Int32 × Sg)} (hh : ∀ (σ : Sg) (x1 : Int32) (x2 : Int32) (H : Heap) (locs : List Loc) (ls : Array Slot), kh σ x1 x2 = some Rr → Gd b D cI cZ cO σ s.heap H locs → lv_has ls 3 [(0, .ref (b + 132)), (1, .int x1), (2, .int x2)] → W p l e rmX12_drift s m args below meth c H locs 0 0 (MQ below (QI b D cI cZ cO Rr) args s 0 0 (fun q => b ≤ q)) (F0 m 46 ls [])) (hxx : ∀ (σ : Sg) (H : Heap) (locs : List Loc) (ls : Array Slot), kx σ = some Rr → Gd b D cI cZ cO σ s.heap H locs → lv_has ls 3 [(0, .ref (b + 132))] → W p l e rmX12_drift s m args below meth c H locs 0 0 (MQ below (QI b D cI cZ cO Rr) args s 0 0 (fun q => b ≤ q)) (F0 m 73 ls [])) {σ : Sg} {x1 : Int32} {x2 : Int32} {H : Heap} {locs : List Loc} {ls : Array Slot} (hs : fX12_drift_62 kh kx σ x1 x2 = some Rr) (G : Gd b D cI cZ cO σ s.heap H locs) (hl : lv_has ls 3 [(0, .ref (b + 132)), (1, .int x1), (2, .int x2)]) : W p l e rmX12_drift s m args below meth c H locs 0 0 (MQ below (QI b D cI cZ cO Rr) args s 0 0 (fun q => b ≤ q)) (F0 m 62 ls []) := by
  have hx := C.1
  have hb := C.2.1
  unfold fX12_drift_62 at hs
  refine lv_aload_n hx hb dX12_drift_62 rfl (lv_at hl 0 rfl) ?_
  refine lv_iconst (v := 0) hx hb dX12_drift_63 (by decide) ?_
  obtain ⟨σ_10, hc, hs⟩ := bvE hs
  refine callVV (ar := 1) (As := [.int 0]) (rest := []) C G hl.1 (ctX12_yearOf _  hc) ⟨wd_1053, wd_1055, wd_37, wd_81, wd_1056⟩ (by decide +kernel) rfl ⟨rfl, rfl⟩ ⟨Nat.le_of_ble_eq_true rfl, Nat.le_of_ble_eq_true rfl⟩ (kd_lt kd_132 (by decide)) (ent_12 b cI cZ cO _ kd_132) rfl (Nat.le_of_ble_eq_true rfl) ⟨Nat.le_of_ble_eq_true rfl, Nat.le_of_ble_eq_true rfl⟩ dX12_drift_64 rfl (fun H locs G => ?_)
  obtain ⟨x2_11, e_11, hs⟩ := ltE hs
  refine lv_iinc (v := x2_11) (lv' := [(2, .int x2_11), (0, .ref (b + 132)), (1, .int x1)]) hx hb dX12_drift_67 hl (k := 2) rfl (by rw [e_11]; rfl) (by decide) rfl (fun ls hl => ?_)
  refine lv_goto (tgt := 46) hx hb dX12_drift_70 (by decide) ?_
  exact hh _ _ _ _ _ _ hs G (lv_sub hl [1, 2, 0] rfl)
def fX12_drift_46b (kh : Sg → Int32 → Int32 → Option (Int32 × Sg)) (kx : Sg → Option (Int32 × Sg)) (σ : Sg) (x1 : Int32) (x2 : Int32) : Option (Int32 × Sg) :=
  (if x1 ≤ x2 then kx σ else (if (σ 132 3) ≤ 0 then fX12_drift_62 kh kx σ x1 x2 else bv (fX12_chance σ) (fun σ_12 => fX12_drift_62 kh kx σ_12 x1 x2)))
set_option maxRecDepth 100000 in
set_option maxHeartbeats 4000000 in
theorem wX12_drift_46b {p : Program} {l : Launch} {e : Env} {s : State} {m : MethodId} {args : Array Value} {below : List Frame} {meth : Method} {c : Code} {D : va_G} {cI cZ cO : ClassId} {b : Nat} (C : Cx p s m args meth c cX12_drift RX12 3 (some .int) D cI cZ cO) {Rr : (Int32 × Sg)} {kh : Sg → Int32 → Int32 → Option (Int32 × Sg)} {kx : Sg → Option (Int32 × Sg)} (hh : ∀ (σ : Sg) (x1 : Int32) (x2 : Int32) (H : Heap) (locs : List Loc) (ls : Array Slot), kh σ x1 x2 = some Rr → Gd b D cI cZ cO σ s.heap H locs → lv_has ls 3 [(0, .ref (b + 132)), (1, .int x1), (2, .int x2)] → W p l e rmX12_drift s m args below meth c H locs 0 0 (MQ below (QI b D cI cZ cO Rr) args s 0 0 (fun q => b ≤ q)) (F0 m 46 ls [])) (hxx : ∀ (σ : Sg) (H : Heap) (locs : List Loc) (ls : Array Slot), kx σ = some Rr → Gd b D cI cZ cO σ s.heap H locs → lv_has ls 3 [(0, .ref (b + 132))] → W p l e rmX12_drift s m args below meth c H locs 0 0 (MQ below (QI b D cI cZ cO Rr) args s 0 0 (fun q => b ≤ q)) (F0 m 73 ls [])) {σ : Sg} {x1 : Int32} {x2 : Int32} {H : Heap} {locs : List Loc} {ls : Array Slot} (hs : fX12_drift_46b kh kx σ x1 x2 = some Rr) (G : Gd b D cI cZ cO σ s.heap H locs) (hl : lv_has ls 3 [(0, .ref (b + 132)), (1, .int x1), (2, .int x2)]) : W p l e rmX12_drift s m args below meth c H locs 0 0 (MQ below (QI b D cI cZ cO Rr) args s 0 0 (fun q => b ≤ q)) (F0 m 46 ls []) := by
  have hx := C.1
  have hb := C.2.1
  unfold fX12_drift_46b at hs
  refine lv_iload_n hx hb dX12_drift_46 rfl (lv_at hl 2 rfl) ?_
  refine lv_iload_n hx hb dX12_drift_47 rfl (lv_at hl 1 rfl) ?_
  refine lv_icmp_ge (tgt := 73) hx hb dX12_drift_48 (by decide) (fun c_8 => ?_) (fun c_8 => ?_)
  · replace hs := ifT c_8 hs
    exact hxx _ _ _ _ hs G (lv_sub hl [0] rfl)
  · replace hs := ifF c_8 hs
    refine lv_aload_n hx hb dX12_drift_51 rfl (lv_at hl 0 rfl) ?_
    refine gf_X12_72 C G kd_132 dX12_drift_52 ?_
    refine lv_if_le (tgt := 62) hx hb dX12_drift_55 (by decide) (fun c_9 => ?_) (fun c_9 => ?_)
    · replace hs := ifT c_9 hs
      exact wX12_drift_62 C  hh hxx hs G (lv_sub hl [0, 1, 2] rfl)
    · replace hs := ifF c_9 hs
      refine lv_aload_n hx hb dX12_drift_58 rfl (lv_at hl 0 rfl) ?_
      obtain ⟨σ_12, hc, hs⟩ := bvE hs
      refine callVV (ar := 0) (As := []) (rest := []) C G hl.1 (ctX12_chance _  hc) ⟨wd_1192, wd_1194, wd_61, wd_81, wd_1195⟩ (by decide +kernel) rfl ⟨rfl, rfl⟩ ⟨Nat.le_of_ble_eq_true rfl, Nat.le_of_ble_eq_true rfl⟩ (kd_lt kd_132 (by decide)) (ent_12 b cI cZ cO _ kd_132) rfl (Nat.le_of_ble_eq_true rfl) ⟨Nat.le_of_ble_eq_true rfl, Nat.le_of_ble_eq_true rfl⟩ dX12_drift_59 rfl (fun H locs G => ?_)
      exact wX12_drift_62 C  hh hxx hs G (lv_sub hl [0, 1, 2] rfl)
def fX12_drift_46 : Nat → (Sg → Option (Int32 × Sg)) → Sg → Int32 → Int32 → Option (Int32 × Sg)
  | 0, _, _, _, _ => none
  | fu + 1, kx, σ, x1, x2 => fX12_drift_46b (fX12_drift_46 fu kx) kx σ x1 x2
theorem fX12_drift_46_s (fu : Nat) (kx : Sg → Option (Int32 × Sg)) (σ : Sg) (x1 : Int32) (x2 : Int32) : fX12_drift_46 (fu + 1) kx σ x1 x2 = fX12_drift_46b (fX12_drift_46 fu kx) kx σ x1 x2 := by rw [fX12_drift_46]
theorem wX12_drift_46 {p : Program} {l : Launch} {e : Env} {s : State} {m : MethodId} {args : Array Value} {below : List Frame} {meth : Method} {c : Code} {D : va_G} {cI cZ cO : ClassId} {b : Nat} (C : Cx p s m args meth c cX12_drift RX12 3 (some .int) D cI cZ cO) {Rr : (Int32 × Sg)} {kx : Sg → Option (Int32 × Sg)} (hxx : ∀ (σ : Sg) (H : Heap) (locs : List Loc) (ls : Array Slot), kx σ = some Rr → Gd b D cI cZ cO σ s.heap H locs → lv_has ls 3 [(0, .ref (b + 132))] → W p l e rmX12_drift s m args below meth c H locs 0 0 (MQ below (QI b D cI cZ cO Rr) args s 0 0 (fun q => b ≤ q)) (F0 m 73 ls [])) : ∀ (fu : Nat) (σ : Sg) (x1 : Int32) (x2 : Int32) (H : Heap) (locs : List Loc) (ls : Array Slot), fX12_drift_46 fu kx σ x1 x2 = some Rr → Gd b D cI cZ cO σ s.heap H locs → lv_has ls 3 [(0, .ref (b + 132)), (1, .int x1), (2, .int x2)] → W p l e rmX12_drift s m args below meth c H locs 0 0 (MQ below (QI b D cI cZ cO Rr) args s 0 0 (fun q => b ≤ q)) (F0 m 46 ls []) := by
  intro fu
  induction fu with
  | zero => intro σ x1 x2 H locs ls hs; cases hs
  | succ fu ih =>
    intro σ x1 x2 H locs ls hs G hl
    exact wX12_drift_46b C (fun σ x1 x2 H locs ls hs G hl => ih σ x1 x2 H locs ls hs G hl) hxx hs G hl
def fX12_drift (σ : Sg) (x1 : Int32) : Option (Int32 × Sg) :=
  bi (fX12_in σ x1.toInt64 1 60) (fun r_1 σ_1 => (if r_1 = 0 then some ((-1000000002), σ_1) else bi (fX12_isHills σ_1) (fun r_3 σ_3 => (if r_3 = 0 then some ((-1000000003), σ_3) else (if inb 1 60 then (if (σ_3 136 (1 : Int32).toNatClampNeg) ≤ 9000 then bv (fX12_remember σ_3) (fun σ_7 => fX12_drift_46 FU (fun σ_13 => (if inb 2 60 then some ((σ_13 136 (2 : Int32).toNatClampNeg), σ_13) else none)) σ_7 x1 0) else some ((-1000000004), σ_3)) else none)))))
set_option maxRecDepth 100000 in
set_option maxHeartbeats 4000000 in
theorem ctX12_drift (l : Launch) {D : va_G} {cI cZ cO : ClassId} {b : Nat} {σ : Sg} {x1 : Int32} {Rr : (Int32 × Sg)} (hs : fX12_drift σ x1 = some Rr) : MI l yX12_drift cX12_drift 3 (some .int) rmX12_drift [.ref (b + 132), .int x1] b D cI cZ cO σ Rr := by
  unfold fX12_drift at hs
  refine metI (by decide +kernel) (Nat.le_of_ble_eq_true rfl) (fun p e s m below meth c ls C G hl => ?_)
  have C : Cx p s m _ meth c cX12_drift RX12 3 (some .int) D cI cZ cO := C
  have hx := C.1
  have hb := C.2.1
  have hl : lv_has ls 3 [(0, .ref (b + 132)), (1, .int x1)] := hl
  refine lv_iload_n hx hb dX12_drift_0 rfl (lv_at hl 1 rfl) ?_
  refine lv_i2l hx hb dX12_drift_1 rfl ?_
  refine lv_lconst (v := 1) hx hb dX12_drift_2 (by decide) ?_
  refine m_ldc2 C wd_1178 dX12_drift_3 ?_
  obtain ⟨r_1, σ_1, hc, hs⟩ := biE hs
  refine callSI (ar := 3) (As := [.long x1.toInt64, .long 1, .long 60]) (rest := []) C G hl.1 (ctX12_in _  hc) ⟨wd_988, wd_989, wd_81, wd_990⟩ (by decide +kernel) rfl ⟨rfl, rfl⟩ ⟨Nat.le_of_ble_eq_true rfl, Nat.le_of_ble_eq_true rfl⟩ (Nat.le_of_ble_eq_true rfl) ⟨Nat.le_of_ble_eq_true rfl, Nat.le_of_ble_eq_true rfl⟩ dX12_drift_6 rfl (fun H locs G => ?_)
  refine lv_if_ne (tgt := 15) hx hb dX12_drift_9 (by decide) (fun c_2 => ?_) (fun c_2 => ?_)
  · replace hs := ifF c_2 hs
    refine lv_aload_n hx hb dX12_drift_15 rfl (lv_at hl 0 rfl) ?_
    obtain ⟨r_3, σ_3, hc, hs⟩ := biE hs
    refine callVI (ar := 0) (As := []) (rest := []) C G hl.1 (ctX12_isHills _  hc) ⟨wd_1091, wd_1093, wd_45, wd_81, wd_1094⟩ (by decide +kernel) rfl ⟨rfl, rfl⟩ ⟨Nat.le_of_ble_eq_true rfl, Nat.le_of_ble_eq_true rfl⟩ (kd_lt kd_132 (by decide)) (ent_12 b cI cZ cO _ kd_132) rfl (Nat.le_of_ble_eq_true rfl) ⟨Nat.le_of_ble_eq_true rfl, Nat.le_of_ble_eq_true rfl⟩ dX12_drift_16 rfl (fun H locs G => ?_)
    refine lv_if_ne (tgt := 25) hx hb dX12_drift_19 (by decide) (fun c_4 => ?_) (fun c_4 => ?_)
    · replace hs := ifF c_4 hs
      refine lv_aload_n hx hb dX12_drift_25 rfl (lv_at hl 0 rfl) ?_
      refine gf_X12_19 C G kd_132 (n' := 136) rfl dX12_drift_26 ?_
      refine lv_iconst (v := 1) hx hb dX12_drift_29 (by decide) ?_
      obtain ⟨g_5, hs⟩ := gdE hs
      refine m_iald C G kd_136 ln_136 g_5 dX12_drift_30 ?_
      refine lv_sipush (v := 9000) hx hb dX12_drift_31 (by decide) ?_
      refine lv_icmp_le (tgt := 40) hx hb dX12_drift_34 (by decide) (fun c_6 => ?_) (fun c_6 => ?_)
      · replace hs := ifT c_6 hs
        refine lv_aload_n hx hb dX12_drift_40 rfl (lv_at hl 0 rfl) ?_
        obtain ⟨σ_7, hc, hs⟩ := bvE hs
        refine callVV (ar := 0) (As := []) (rest := []) C G hl.1 (ctX12_remember _  hc) ⟨wd_1153, wd_1155, wd_57, wd_81, wd_1156⟩ (by decide +kernel) rfl ⟨rfl, rfl⟩ ⟨Nat.le_of_ble_eq_true rfl, Nat.le_of_ble_eq_true rfl⟩ (kd_lt kd_132 (by decide)) (ent_12 b cI cZ cO _ kd_132) rfl (Nat.le_of_ble_eq_true rfl) ⟨Nat.le_of_ble_eq_true rfl, Nat.le_of_ble_eq_true rfl⟩ dX12_drift_41 rfl (fun H locs G => ?_)
        refine lv_iconst (v := 0) hx hb dX12_drift_44 (by decide) ?_
        refine lv_istore_n (lv' := [(2, .int 0), (0, .ref (b + 132)), (1, .int x1)]) hx hb dX12_drift_45 rfl hl (by decide) rfl (fun ls hl => ?_)
        refine wX12_drift_46 C (fun σ_13 H locs ls hs G hl => ?_) FU _ _ _ _ _ _ hs G (lv_sub hl [1, 2, 0] rfl)
        refine lv_aload_n hx hb dX12_drift_73 rfl (lv_at hl 0 rfl) ?_
        refine gf_X12_19 C G kd_132 (n' := 136) rfl dX12_drift_74 ?_
        refine lv_iconst (v := 2) hx hb dX12_drift_77 (by decide) ?_
        obtain ⟨g_14, hs⟩ := gdE hs
        refine m_iald C G kd_136 ln_136 g_14 dX12_drift_78 ?_
        exact retI C G hs dX12_drift_79
      · replace hs := ifF c_6 hs
        refine m_ldc C wd_992 dX12_drift_37 ?_
        exact retI C G hs dX12_drift_39
    · replace hs := ifT c_4 hs
      refine m_ldc C wd_1169 dX12_drift_22 ?_
      exact retI C G hs dX12_drift_24
  · replace hs := ifT c_2 hs
    refine m_ldc C wd_991 dX12_drift_12 ?_
    exact retI C G hs dX12_drift_14
-- X12_undo
def rmX12_undo : Room := { frames := 0, cells := 0, slots := 0, locals := 0 }
def fX12_undo_22b (kh : Sg → Int32 → Option (Int32 × Sg)) (kx : Sg → Option (Int32 × Sg)) (σ : Sg) (x1 : Int32) : Option (Int32 × Sg) :=
  (if 30 ≤ x1 then kx σ else (if inb ((30 * (σ 132 25)) + x1) 480 then (if inb x1 60 then lt (st σ 136 x1.toNatClampNeg (σ 143 ((30 * (σ 132 25)) + x1).toNatClampNeg)) (fun σ_5 => lt (x1 + 1) (fun x1_6 => kh σ_5 x1_6)) else none) else none))
set_option maxRecDepth 100000 in
set_option maxHeartbeats 4000000 in
theorem wX12_undo_22b {p : Program} {l : Launch} {e : Env} {s : State} {m : MethodId} {args : Array Value} {below : List Frame} {meth : Method} {c : Code} {D : va_G} {cI cZ cO : ClassId} {b : Nat} (C : Cx p s m args meth c cX12_undo RX12 2 (some .int) D cI cZ cO) {Rr : (Int32 × Sg)} {kh : Sg → Int32 → Option (Int32 × Sg)} {kx : Sg → Option (Int32 × Sg)} (hh : ∀ (σ : Sg) (x1 : Int32) (H : Heap) (locs : List Loc) (ls : Array Slot), kh σ x1 = some Rr → Gd b D cI cZ cO σ s.heap H locs → lv_has ls 2 [(0, .ref (b + 132)), (1, .int x1)] → W p l e rmX12_undo s m args below meth c H locs 0 0 (MQ below (QI b D cI cZ cO Rr) args s 0 0 (fun q => b ≤ q)) (F0 m 22 ls [])) (hxx : ∀ (σ : Sg) (H : Heap) (locs : List Loc) (ls : Array Slot), kx σ = some Rr → Gd b D cI cZ cO σ s.heap H locs → lv_has ls 2 [(0, .ref (b + 132))] → W p l e rmX12_undo s m args below meth c H locs 0 0 (MQ below (QI b D cI cZ cO Rr) args s 0 0 (fun q => b ≤ q)) (F0 m 54 ls [])) {σ : Sg} {x1 : Int32} {H : Heap} {locs : List Loc} {ls : Array Slot} (hs : fX12_undo_22b kh kx σ x1 = some Rr) (G : Gd b D cI cZ cO σ s.heap H locs) (hl : lv_has ls 2 [(0, .ref (b + 132)), (1, .int x1)]) : W p l e rmX12_undo s m args below meth c H locs 0 0 (MQ below (QI b D cI cZ cO Rr) args s 0 0 (fun q => b ≤ q)) (F0 m 22 ls []) := by
  have hx := C.1
  have hb := C.2.1
  unfold fX12_undo_22b at hs
  refine lv_iload_n hx hb dX12_undo_22 rfl (lv_at hl 1 rfl) ?_
  refine lv_bipush (v := 30) hx hb dX12_undo_23 (by decide) ?_
  refine lv_icmp_ge (tgt := 54) hx hb dX12_undo_25 (by decide) (fun c_3 => ?_) (fun c_3 => ?_)
  · replace hs := ifT c_3 hs
    exact hxx _ _ _ _ hs G (lv_sub hl [0] rfl)
  · replace hs := ifF c_3 hs
    refine lv_aload_n hx hb dX12_undo_28 rfl (lv_at hl 0 rfl) ?_
    refine gf_X12_19 C G kd_132 (n' := 136) rfl dX12_undo_29 ?_
    refine lv_iload_n hx hb dX12_undo_32 rfl (lv_at hl 1 rfl) ?_
    refine lv_aload_n hx hb dX12_undo_33 rfl (lv_at hl 0 rfl) ?_
    refine gf_X12_44 C G kd_132 (n' := 143) rfl dX12_undo_34 ?_
    refine lv_bipush (v := 30) hx hb dX12_undo_37 (by decide) ?_
    refine lv_aload_n hx hb dX12_undo_39 rfl (lv_at hl 0 rfl) ?_
    refine gf_X12_150 C G kd_132 dX12_undo_40 ?_
    refine lv_imul hx hb dX12_undo_43 ?_
    refine lv_iload_n hx hb dX12_undo_44 rfl (lv_at hl 1 rfl) ?_
    refine lv_iadd hx hb dX12_undo_45 ?_
    obtain ⟨g_4, hs⟩ := gdE hs
    refine m_iald C G kd_143 ln_143 g_4 dX12_undo_46 ?_
    obtain ⟨g_5, hs⟩ := gdE hs
    refine m_iast C G kd_136 ln_136 g_5 hs dX12_undo_47 (fun σ_5 H locs hs G => ?_)
    obtain ⟨x1_6, e_6, hs⟩ := ltE hs
    refine lv_iinc (v := x1_6) (lv' := [(1, .int x1_6), (0, .ref (b + 132))]) hx hb dX12_undo_48 hl (k := 1) rfl (by rw [e_6]; rfl) (by decide) rfl (fun ls hl => ?_)
    refine lv_goto (tgt := 22) hx hb dX12_undo_51 (by decide) ?_
    exact hh _ _ _ _ _ hs G (lv_sub hl [1, 0] rfl)
def fX12_undo_22 : Nat → (Sg → Option (Int32 × Sg)) → Sg → Int32 → Option (Int32 × Sg)
  | 0, _, _, _ => none
  | fu + 1, kx, σ, x1 => fX12_undo_22b (fX12_undo_22 fu kx) kx σ x1
theorem fX12_undo_22_s (fu : Nat) (kx : Sg → Option (Int32 × Sg)) (σ : Sg) (x1 : Int32) : fX12_undo_22 (fu + 1) kx σ x1 = fX12_undo_22b (fX12_undo_22 fu kx) kx σ x1 := by rw [fX12_undo_22]
theorem wX12_undo_22 {p : Program} {l : Launch} {e : Env} {s : State} {m : MethodId} {args : Array Value} {below : List Frame} {meth : Method} {c : Code} {D : va_G} {cI cZ cO : ClassId} {b : Nat} (C : Cx p s m args meth c cX12_undo RX12 2 (some .int) D cI cZ cO) {Rr : (Int32 × Sg)} {kx : Sg → Option (Int32 × Sg)} (hxx : ∀ (σ : Sg) (H : Heap) (locs : List Loc) (ls : Array Slot), kx σ = some Rr → Gd b D cI cZ cO σ s.heap H locs → lv_has ls 2 [(0, .ref (b + 132))] → W p l e rmX12_undo s m args below meth c H locs 0 0 (MQ below (QI b D cI cZ cO Rr) args s 0 0 (fun q => b ≤ q)) (F0 m 54 ls [])) : ∀ (fu : Nat) (σ : Sg) (x1 : Int32) (H : Heap) (locs : List Loc) (ls : Array Slot), fX12_undo_22 fu kx σ x1 = some Rr → Gd b D cI cZ cO σ s.heap H locs → lv_has ls 2 [(0, .ref (b + 132)), (1, .int x1)] → W p l e rmX12_undo s m args below meth c H locs 0 0 (MQ below (QI b D cI cZ cO Rr) args s 0 0 (fun q => b ≤ q)) (F0 m 22 ls []) := by
  intro fu
  induction fu with
  | zero => intro σ x1 H locs ls hs; cases hs
  | succ fu ih =>
    intro σ x1 H locs ls hs G hl
    exact wX12_undo_22b C (fun σ x1 H locs ls hs G hl => ih σ x1 H locs ls hs G hl) hxx hs G hl
def fX12_undo (σ : Sg) : Option (Int32 × Sg) :=
  (if (σ 132 25) = 0 then some ((-1000000003), σ) else lt (st σ 132 25 ((σ 132 25) - 1)) (fun σ_2 => fX12_undo_22 FU (fun σ_7 => some ((σ_7 132 25), σ_7)) σ_2 0))
set_option maxRecDepth 100000 in
set_option maxHeartbeats 4000000 in
theorem ctX12_undo (l : Launch) {D : va_G} {cI cZ cO : ClassId} {b : Nat} {σ : Sg} {Rr : (Int32 × Sg)} (hs : fX12_undo σ = some Rr) : MI l yX12_undo cX12_undo 2 (some .int) rmX12_undo [.ref (b + 132)] b D cI cZ cO σ Rr := by
  unfold fX12_undo at hs
  refine metI (by decide +kernel) (Nat.le_of_ble_eq_true rfl) (fun p e s m below meth c ls C G hl => ?_)
  have C : Cx p s m _ meth c cX12_undo RX12 2 (some .int) D cI cZ cO := C
  have hx := C.1
  have hb := C.2.1
  have hl : lv_has ls 2 [(0, .ref (b + 132))] := hl
  refine lv_aload_n hx hb dX12_undo_0 rfl (lv_at hl 0 rfl) ?_
  refine gf_X12_150 C G kd_132 dX12_undo_1 ?_
  refine lv_if_ne (tgt := 10) hx hb dX12_undo_4 (by decide) (fun c_1 => ?_) (fun c_1 => ?_)
  · replace hs := ifF c_1 hs
    refine lv_aload_n hx hb dX12_undo_10 rfl (lv_at hl 0 rfl) ?_
    refine lv_dup hx hb dX12_undo_11 rfl ?_
    refine gf_X12_150 C G kd_132 dX12_undo_12 ?_
    refine lv_iconst (v := 1) hx hb dX12_undo_15 (by decide) ?_
    refine lv_isub hx hb dX12_undo_16 ?_
    refine pf_X12_150 C G kd_132 hs dX12_undo_17 (fun σ_2 H locs hs G => ?_)
    refine lv_iconst (v := 0) hx hb dX12_undo_20 (by decide) ?_
    refine lv_istore_n (lv' := [(1, .int 0), (0, .ref (b + 132))]) hx hb dX12_undo_21 rfl hl (by decide) rfl (fun ls hl => ?_)
    refine wX12_undo_22 C (fun σ_7 H locs ls hs G hl => ?_) FU _ _ _ _ _ hs G (lv_sub hl [1, 0] rfl)
    refine lv_aload_n hx hb dX12_undo_54 rfl (lv_at hl 0 rfl) ?_
    refine gf_X12_150 C G kd_132 dX12_undo_55 ?_
    exact retI C G hs dX12_undo_58
  · replace hs := ifT c_1 hs
    refine m_ldc C wd_1169 dX12_undo_7 ?_
    exact retI C G hs dX12_undo_9
-- X12_down
def rmX12_down : Room := { frames := 2, cells := 0, slots := 0, locals := 48 }
def fX12_down_33 (σ : Sg) : Option (Int32 × Sg) :=
  some ((-1000000002), σ)
set_option maxRecDepth 100000 in
set_option maxHeartbeats 4000000 in
theorem wX12_down_33 {p : Program} {l : Launch} {e : Env} {s : State} {m : MethodId} {args : Array Value} {below : List Frame} {meth : Method} {c : Code} {D : va_G} {cI cZ cO : ClassId} {b : Nat} (C : Cx p s m args meth c cX12_down RX12 5 (some .int) D cI cZ cO) {Rr : (Int32 × Sg)} {σ : Sg} {H : Heap} {locs : List Loc} {ls : Array Slot} (hs : fX12_down_33 σ = some Rr) (G : Gd b D cI cZ cO σ s.heap H locs) (hl : lv_has ls 5 []) : W p l e rmX12_down s m args below meth c H locs 0 0 (MQ below (QI b D cI cZ cO Rr) args s 0 0 (fun q => b ≤ q)) (F0 m 33 ls []) := by
  have hx := C.1
  have hb := C.2.1
  unfold fX12_down_33 at hs
  refine m_ldc C wd_991 dX12_down_33 ?_
  exact retI C G hs dX12_down_35
def fX12_down (σ : Sg) (x1 : Int32) (x2 : Int32) (x3 : Int32) : Option (Int32 × Sg) :=
  bi (fX12_isPerson σ x1) (fun r_1 σ_1 => (if r_1 = 0 then some ((-1000000001), σ_1) else bi (fX12_in σ_1 x2.toInt64 0 99) (fun r_3 σ_3 => (if r_3 = 0 then fX12_down_33 σ_3 else bi (fX12_in σ_3 x3.toInt64 0 1) (fun r_5 σ_5 => (if r_5 = 0 then fX12_down_33 σ_5 else bi (fX12_bargain σ_5 x1 x2) (fun r_7 σ_7 => (if x3 = 0 then some (r_7, σ_7) else some ((σ_7 132 23), σ_7)))))))))
set_option maxRecDepth 100000 in
set_option maxHeartbeats 4000000 in
theorem ctX12_down (l : Launch) {D : va_G} {cI cZ cO : ClassId} {b : Nat} {σ : Sg} {x1 : Int32} {x2 : Int32} {x3 : Int32} {Rr : (Int32 × Sg)} (hs : fX12_down σ x1 x2 x3 = some Rr) : MI l yX12_down cX12_down 5 (some .int) rmX12_down [.ref (b + 132), .int x1, .int x2, .int x3] b D cI cZ cO σ Rr := by
  unfold fX12_down at hs
  refine metI (by decide +kernel) (Nat.le_of_ble_eq_true rfl) (fun p e s m below meth c ls C G hl => ?_)
  have C : Cx p s m _ meth c cX12_down RX12 5 (some .int) D cI cZ cO := C
  have hx := C.1
  have hb := C.2.1
  have hl : lv_has ls 5 [(0, .ref (b + 132)), (1, .int x1), (2, .int x2), (3, .int x3)] := hl
  refine lv_aload_n hx hb dX12_down_0 rfl (lv_at hl 0 rfl) ?_
  refine lv_iload_n hx hb dX12_down_1 rfl (lv_at hl 1 rfl) ?_
  obtain ⟨r_1, σ_1, hc, hs⟩ := biE hs
  refine callVI (ar := 1) (As := [.int x1]) (rest := []) C G hl.1 (ctX12_isPerson _  hc) ⟨wd_1107, wd_1109, wd_48, wd_81, wd_1110⟩ (by decide +kernel) rfl ⟨rfl, rfl⟩ ⟨Nat.le_of_ble_eq_true rfl, Nat.le_of_ble_eq_true rfl⟩ (kd_lt kd_132 (by decide)) (ent_12 b cI cZ cO _ kd_132) rfl (Nat.le_of_ble_eq_true rfl) ⟨Nat.le_of_ble_eq_true rfl, Nat.le_of_ble_eq_true rfl⟩ dX12_down_2 rfl (fun H locs G => ?_)
  refine lv_if_ne (tgt := 11) hx hb dX12_down_5 (by decide) (fun c_2 => ?_) (fun c_2 => ?_)
  · replace hs := ifF c_2 hs
    refine lv_iload_n hx hb dX12_down_11 rfl (lv_at hl 2 rfl) ?_
    refine lv_i2l hx hb dX12_down_12 rfl ?_
    refine lv_lconst (v := 0) hx hb dX12_down_13 (by decide) ?_
    refine m_ldc2 C wd_1152 dX12_down_14 ?_
    obtain ⟨r_3, σ_3, hc, hs⟩ := biE hs
    refine callSI (ar := 3) (As := [.long x2.toInt64, .long 0, .long 99]) (rest := []) C G hl.1 (ctX12_in _  hc) ⟨wd_988, wd_989, wd_81, wd_990⟩ (by decide +kernel) rfl ⟨rfl, rfl⟩ ⟨Nat.le_of_ble_eq_true rfl, Nat.le_of_ble_eq_true rfl⟩ (Nat.le_of_ble_eq_true rfl) ⟨Nat.le_of_ble_eq_true rfl, Nat.le_of_ble_eq_true rfl⟩ dX12_down_17 rfl (fun H locs G => ?_)
    refine lv_if_eq (tgt := 33) hx hb dX12_down_20 (by decide) (fun c_4 => ?_) (fun c_4 => ?_)
    · replace hs := ifT c_4 hs
      exact wX12_down_33 C   hs G (lv_sub hl [] rfl)
    · replace hs := ifF c_4 hs
      refine lv_iload_n hx hb dX12_down_23 rfl (lv_at hl 3 rfl) ?_
      refine lv_i2l hx hb dX12_down_24 rfl ?_
      refine lv_lconst (v := 0) hx hb dX12_down_25 (by decide) ?_
      refine lv_lconst (v := 1) hx hb dX12_down_26 (by decide) ?_
      obtain ⟨r_5, σ_5, hc, hs⟩ := biE hs
      refine callSI (ar := 3) (As := [.long x3.toInt64, .long 0, .long 1]) (rest := []) C G hl.1 (ctX12_in _  hc) ⟨wd_988, wd_989, wd_81, wd_990⟩ (by decide +kernel) rfl ⟨rfl, rfl⟩ ⟨Nat.le_of_ble_eq_true rfl, Nat.le_of_ble_eq_true rfl⟩ (Nat.le_of_ble_eq_true rfl) ⟨Nat.le_of_ble_eq_true rfl, Nat.le_of_ble_eq_true rfl⟩ dX12_down_27 rfl (fun H locs G => ?_)
      refine lv_if_ne (tgt := 36) hx hb dX12_down_30 (by decide) (fun c_6 => ?_) (fun c_6 => ?_)
      · replace hs := ifF c_6 hs
        refine lv_aload_n hx hb dX12_down_36 rfl (lv_at hl 0 rfl) ?_
        refine lv_iload_n hx hb dX12_down_37 rfl (lv_at hl 1 rfl) ?_
        refine lv_iload_n hx hb dX12_down_38 rfl (lv_at hl 2 rfl) ?_
        obtain ⟨r_7, σ_7, hc, hs⟩ := biE hs
        refine callVI (ar := 2) (As := [.int x1, .int x2]) (rest := []) C G hl.1 (ctX12_bargain _  hc) ⟨wd_1116, wd_1118, wd_50, wd_81, wd_1119⟩ (by decide +kernel) rfl ⟨rfl, rfl⟩ ⟨Nat.le_of_ble_eq_true rfl, Nat.le_of_ble_eq_true rfl⟩ (kd_lt kd_132 (by decide)) (ent_12 b cI cZ cO _ kd_132) rfl (Nat.le_of_ble_eq_true rfl) ⟨Nat.le_of_ble_eq_true rfl, Nat.le_of_ble_eq_true rfl⟩ dX12_down_39 rfl (fun H locs G => ?_)
        refine lv_istore (lv' := [(4, .int r_7), (0, .ref (b + 132)), (1, .int x1), (2, .int x2), (3, .int x3)]) hx hb dX12_down_42 hl (by decide) rfl (fun ls hl => ?_)
        refine lv_iload_n hx hb dX12_down_44 rfl (lv_at hl 4 rfl) ?_
        refine lv_if_ne (tgt := 53) hx hb dX12_down_45 (by decide) (fun c_8 => ?_) (fun c_8 => ?_)
        · replace hs := ifF c_8 hs
          refine lv_aload_n hx hb dX12_down_53 rfl (lv_at hl 1 rfl) ?_
          refine gf_X12_153 C G kd_132 dX12_down_54 ?_
          exact retI C G hs dX12_down_57
        · replace hs := ifT c_8 hs
          refine lv_iload hx hb dX12_down_48 (lv_at hl 0 rfl) ?_
          refine lv_goto (tgt := 57) hx hb dX12_down_50 (by decide) ?_
          exact retI C G hs dX12_down_57
      · replace hs := ifT c_6 hs
        exact wX12_down_33 C   hs G (lv_sub hl [] rfl)
  · replace hs := ifT c_2 hs
    refine m_ldc C wd_1111 dX12_down_8 ?_
    exact retI C G hs dX12_down_10
-- X12_best
def rmX12_best : Room := { frames := 2, cells := 0, slots := 0, locals := 48 }
def fX12_best_82 (kh : Sg → Int32 → Int32 → Int32 → Int32 → Option (Int32 × Sg)) (kx : Sg → Int32 → Option (Int32 × Sg)) (σ : Sg) (x1 : Int32) (x2 : Int32) (x3 : Int32) (x4 : Int32) : Option (Int32 × Sg) :=
  lt (x4 + 1) (fun x4_8 => kh σ x1 x2 x3 x4_8)
set_option maxRecDepth 100000 in
set_option maxHeartbeats 4000000 in
theorem wX12_best_82 {p : Program} {l : Launch} {e : Env} {s : State} {m : MethodId} {args : Array Value} {below : List Frame} {meth : Method} {c : Code} {D : va_G} {cI cZ cO : ClassId} {b : Nat} (C : Cx p s m args meth c cX12_best RX12 6 (some .int) D cI cZ cO) {Rr : (Int32 × Sg)} {kh : Sg → Int32 → Int32 → Int32 → Int32 → Option (Int32 × Sg)} {kx : Sg → Int32 → Option (Int32 × Sg)} (hh : ∀ (σ : Sg) (x1 : Int32) (x2 : Int32) (x3 : Int32) (x4 : Int32) (H : Heap) (locs : List Loc) (ls : Array Slot), kh σ x1 x2 x3 x4 = some Rr → Gd b D cI cZ cO σ s.heap H locs → lv_has ls 6 [(0, .ref (b + 132)), (1, .int x1), (2, .int x2), (3, .int x3), (4, .int x4)] → W p l e rmX12_best s m args below meth c H locs 0 0 (MQ below (QI b D cI cZ cO Rr) args s 0 0 (fun q => b ≤ q)) (F0 m 24 ls [])) (hxx : ∀ (σ : Sg) (x2 : Int32) (H : Heap) (locs : List Loc) (ls : Array Slot), kx σ x2 = some Rr → Gd b D cI cZ cO σ s.heap H locs → lv_has ls 6 [(2, .int x2)] → W p l e rmX12_best s m args below meth c H locs 0 0 (MQ below (QI b D cI cZ cO Rr) args s 0 0 (fun q => b ≤ q)) (F0 m 88 ls [])) {σ : Sg} {x1 : Int32} {x2 : Int32} {x3 : Int32} {x4 : Int32} {H : Heap} {locs : List Loc} {ls : Array Slot} (hs : fX12_best_82 kh kx σ x1 x2 x3 x4 = some Rr) (G : Gd b D cI cZ cO σ s.heap H locs) (hl : lv_has ls 6 [(0, .ref (b + 132)), (1, .int x1), (2, .int x2), (3, .int x3), (4, .int x4)]) : W p l e rmX12_best s m args below meth c H locs 0 0 (MQ below (QI b D cI cZ cO Rr) args s 0 0 (fun q => b ≤ q)) (F0 m 82 ls []) := by
  have hx := C.1
  have hb := C.2.1
  unfold fX12_best_82 at hs
  obtain ⟨x4_8, e_8, hs⟩ := ltE hs
  refine lv_iinc (v := x4_8) (lv' := [(4, .int x4_8), (0, .ref (b + 132)), (1, .int x1), (2, .int x2), (3, .int x3)]) hx hb dX12_best_82 hl (k := 4) rfl (by rw [e_8]; rfl) (by decide) rfl (fun ls hl => ?_)
  refine lv_goto (tgt := 24) hx hb dX12_best_85 (by decide) ?_
  exact hh _ _ _ _ _ _ _ _ hs G (lv_sub hl [1, 2, 3, 4, 0] rfl)
def fX12_best_81 (kh : Sg → Int32 → Int32 → Int32 → Int32 → Option (Int32 × Sg)) (kx : Sg → Int32 → Option (Int32 × Sg)) (σ : Sg) (x1 : Int32) (x2 : Int32) (x4 : Int32) (y0 : Int32) : Option (Int32 × Sg) :=
  fX12_best_82 kh kx σ x1 x2 y0 x4
set_option maxRecDepth 100000 in
set_option maxHeartbeats 4000000 in
theorem wX12_best_81 {p : Program} {l : Launch} {e : Env} {s : State} {m : MethodId} {args : Array Value} {below : List Frame} {meth : Method} {c : Code} {D : va_G} {cI cZ cO : ClassId} {b : Nat} (C : Cx p s m args meth c cX12_best RX12 6 (some .int) D cI cZ cO) {Rr : (Int32 × Sg)} {kh : Sg → Int32 → Int32 → Int32 → Int32 → Option (Int32 × Sg)} {kx : Sg → Int32 → Option (Int32 × Sg)} (hh : ∀ (σ : Sg) (x1 : Int32) (x2 : Int32) (x3 : Int32) (x4 : Int32) (H : Heap) (locs : List Loc) (ls : Array Slot), kh σ x1 x2 x3 x4 = some Rr → Gd b D cI cZ cO σ s.heap H locs → lv_has ls 6 [(0, .ref (b + 132)), (1, .int x1), (2, .int x2), (3, .int x3), (4, .int x4)] → W p l e rmX12_best s m args below meth c H locs 0 0 (MQ below (QI b D cI cZ cO Rr) args s 0 0 (fun q => b ≤ q)) (F0 m 24 ls [])) (hxx : ∀ (σ : Sg) (x2 : Int32) (H : Heap) (locs : List Loc) (ls : Array Slot), kx σ x2 = some Rr → Gd b D cI cZ cO σ s.heap H locs → lv_has ls 6 [(2, .int x2)] → W p l e rmX12_best s m args below meth c H locs 0 0 (MQ below (QI b D cI cZ cO Rr) args s 0 0 (fun q => b ≤ q)) (F0 m 88 ls [])) {σ : Sg} {x1 : Int32} {x2 : Int32} {x4 : Int32} {y0 : Int32} {H : Heap} {locs : List Loc} {ls : Array Slot} (hs : fX12_best_81 kh kx σ x1 x2 x4 y0 = some Rr) (G : Gd b D cI cZ cO σ s.heap H locs) (hl : lv_has ls 6 [(0, .ref (b + 132)), (1, .int x1), (2, .int x2), (4, .int x4)]) : W p l e rmX12_best s m args below meth c H locs 0 0 (MQ below (QI b D cI cZ cO Rr) args s 0 0 (fun q => b ≤ q)) (F0 m 81 ls [.int y0]) := by
  have hx := C.1
  have hb := C.2.1
  unfold fX12_best_81 at hs
  refine lv_istore_n (lv' := [(3, .int y0), (0, .ref (b + 132)), (1, .int x1), (2, .int x2), (4, .int x4)]) hx hb dX12_best_81 rfl hl (by decide) rfl (fun ls hl => ?_)
  exact wX12_best_82 C  hh hxx hs G (lv_sub hl [1, 2, 3, 0, 4] rfl)
def fX12_best_68 (kh : Sg → Int32 → Int32 → Int32 → Int32 → Option (Int32 × Sg)) (kx : Sg → Int32 → Option (Int32 × Sg)) (σ : Sg) (x1 : Int32) (x3 : Int32) (x4 : Int32) (x5 : Int32) (y0 : Int32) : Option (Int32 × Sg) :=
  (if x3 ≤ x5 then fX12_best_81 kh kx σ x1 y0 x4 x3 else fX12_best_81 kh kx σ x1 y0 x4 x5)
set_option maxRecDepth 100000 in
set_option maxHeartbeats 4000000 in
theorem wX12_best_68 {p : Program} {l : Launch} {e : Env} {s : State} {m : MethodId} {args : Array Value} {below : List Frame} {meth : Method} {c : Code} {D : va_G} {cI cZ cO : ClassId} {b : Nat} (C : Cx p s m args meth c cX12_best RX12 6 (some .int) D cI cZ cO) {Rr : (Int32 × Sg)} {kh : Sg → Int32 → Int32 → Int32 → Int32 → Option (Int32 × Sg)} {kx : Sg → Int32 → Option (Int32 × Sg)} (hh : ∀ (σ : Sg) (x1 : Int32) (x2 : Int32) (x3 : Int32) (x4 : Int32) (H : Heap) (locs : List Loc) (ls : Array Slot), kh σ x1 x2 x3 x4 = some Rr → Gd b D cI cZ cO σ s.heap H locs → lv_has ls 6 [(0, .ref (b + 132)), (1, .int x1), (2, .int x2), (3, .int x3), (4, .int x4)] → W p l e rmX12_best s m args below meth c H locs 0 0 (MQ below (QI b D cI cZ cO Rr) args s 0 0 (fun q => b ≤ q)) (F0 m 24 ls [])) (hxx : ∀ (σ : Sg) (x2 : Int32) (H : Heap) (locs : List Loc) (ls : Array Slot), kx σ x2 = some Rr → Gd b D cI cZ cO σ s.heap H locs → lv_has ls 6 [(2, .int x2)] → W p l e rmX12_best s m args below meth c H locs 0 0 (MQ below (QI b D cI cZ cO Rr) args s 0 0 (fun q => b ≤ q)) (F0 m 88 ls [])) {σ : Sg} {x1 : Int32} {x3 : Int32} {x4 : Int32} {x5 : Int32} {y0 : Int32} {H : Heap} {locs : List Loc} {ls : Array Slot} (hs : fX12_best_68 kh kx σ x1 x3 x4 x5 y0 = some Rr) (G : Gd b D cI cZ cO σ s.heap H locs) (hl : lv_has ls 6 [(0, .ref (b + 132)), (1, .int x1), (3, .int x3), (4, .int x4), (5, .int x5)]) : W p l e rmX12_best s m args below meth c H locs 0 0 (MQ below (QI b D cI cZ cO Rr) args s 0 0 (fun q => b ≤ q)) (F0 m 68 ls [.int y0]) := by
  have hx := C.1
  have hb := C.2.1
  unfold fX12_best_68 at hs
  refine lv_istore_n (lv' := [(2, .int y0), (0, .ref (b + 132)), (1, .int x1), (3, .int x3), (4, .int x4), (5, .int x5)]) hx hb dX12_best_68 rfl hl (by decide) rfl (fun ls hl => ?_)
  refine lv_iload hx hb dX12_best_69 (lv_at hl 5 rfl) ?_
  refine lv_iload_n hx hb dX12_best_71 rfl (lv_at hl 3 rfl) ?_
  refine lv_icmp_ge (tgt := 80) hx hb dX12_best_72 (by decide) (fun c_11 => ?_) (fun c_11 => ?_)
  · replace hs := ifT c_11 hs
    refine lv_iload_n hx hb dX12_best_80 rfl (lv_at hl 3 rfl) ?_
    exact wX12_best_81 C  hh hxx hs G (lv_sub hl [1, 2, 0, 4] rfl)
  · replace hs := ifF c_11 hs
    refine lv_iload hx hb dX12_best_75 (lv_at hl 5 rfl) ?_
    refine lv_goto (tgt := 81) hx hb dX12_best_77 (by decide) ?_
    exact wX12_best_81 C  hh hxx hs G (lv_sub hl [1, 2, 0, 4] rfl)
def fX12_best_24b (kh : Sg → Int32 → Int32 → Int32 → Int32 → Option (Int32 × Sg)) (kx : Sg → Int32 → Option (Int32 × Sg)) (σ : Sg) (x1 : Int32) (x2 : Int32) (x3 : Int32) (x4 : Int32) : Option (Int32 × Sg) :=
  (if (σ 132 3) ≤ x4 then kx σ x2 else (if inb 3 60 then bi (fX12_has σ (σ 136 (3 : Int32).toNatClampNeg) x4) (fun r_6 σ_6 => (if r_6 = 0 then bi (fX12_bargain σ_6 x4 x1) (fun r_9 σ_9 => (if x3 ≤ r_9 then fX12_best_68 kh kx σ_9 x1 x3 x4 r_9 x2 else fX12_best_68 kh kx σ_9 x1 x3 x4 r_9 x4)) else fX12_best_82 kh kx σ_6 x1 x2 x3 x4)) else none))
set_option maxRecDepth 100000 in
set_option maxHeartbeats 4000000 in
theorem wX12_best_24b {p : Program} {l : Launch} {e : Env} {s : State} {m : MethodId} {args : Array Value} {below : List Frame} {meth : Method} {c : Code} {D : va_G} {cI cZ cO : ClassId} {b : Nat} (C : Cx p s m args meth c cX12_best RX12 6 (some .int) D cI cZ cO) {Rr : (Int32 × Sg)} {kh : Sg → Int32 → Int32 → Int32 → Int32 → Option (Int32 × Sg)} {kx : Sg → Int32 → Option (Int32 × Sg)} (hh : ∀ (σ : Sg) (x1 : Int32) (x2 : Int32) (x3 : Int32) (x4 : Int32) (H : Heap) (locs : List Loc) (ls : Array Slot), kh σ x1 x2 x3 x4 = some Rr → Gd b D cI cZ cO σ s.heap H locs → lv_has ls 6 [(0, .ref (b + 132)), (1, .int x1), (2, .int x2), (3, .int x3), (4, .int x4)] → W p l e rmX12_best s m args below meth c H locs 0 0 (MQ below (QI b D cI cZ cO Rr) args s 0 0 (fun q => b ≤ q)) (F0 m 24 ls [])) (hxx : ∀ (σ : Sg) (x2 : Int32) (H : Heap) (locs : List Loc) (ls : Array Slot), kx σ x2 = some Rr → Gd b D cI cZ cO σ s.heap H locs → lv_has ls 6 [(2, .int x2)] → W p l e rmX12_best s m args below meth c H locs 0 0 (MQ below (QI b D cI cZ cO Rr) args s 0 0 (fun q => b ≤ q)) (F0 m 88 ls [])) {σ : Sg} {x1 : Int32} {x2 : Int32} {x3 : Int32} {x4 : Int32} {H : Heap} {locs : List Loc} {ls : Array Slot} (hs : fX12_best_24b kh kx σ x1 x2 x3 x4 = some Rr) (G : Gd b D cI cZ cO σ s.heap H locs) (hl : lv_has ls 6 [(0, .ref (b + 132)), (1, .int x1), (2, .int x2), (3, .int x3), (4, .int x4)]) : W p l e rmX12_best s m args below meth c H locs 0 0 (MQ below (QI b D cI cZ cO Rr) args s 0 0 (fun q => b ≤ q)) (F0 m 24 ls []) := by
  have hx := C.1
  have hb := C.2.1
  unfold fX12_best_24b at hs
  refine lv_iload hx hb dX12_best_24 (lv_at hl 4 rfl) ?_
  refine lv_aload_n hx hb dX12_best_26 rfl (lv_at hl 0 rfl) ?_
  refine gf_X12_72 C G kd_132 dX12_best_27 ?_
  refine lv_icmp_ge (tgt := 88) hx hb dX12_best_30 (by decide) (fun c_4 => ?_) (fun c_4 => ?_)
  · replace hs := ifT c_4 hs
    exact hxx _ _ _ _ _ hs G (lv_sub hl [2] rfl)
  · replace hs := ifF c_4 hs
    refine lv_aload_n hx hb dX12_best_33 rfl (lv_at hl 0 rfl) ?_
    refine gf_X12_19 C G kd_132 (n' := 136) rfl dX12_best_34 ?_
    refine lv_iconst (v := 3) hx hb dX12_best_37 (by decide) ?_
    obtain ⟨g_5, hs⟩ := gdE hs
    refine m_iald C G kd_136 ln_136 g_5 dX12_best_38 ?_
    refine lv_iload hx hb dX12_best_39 (lv_at hl 4 rfl) ?_
    obtain ⟨r_6, σ_6, hc, hs⟩ := biE hs
    refine callSI (ar := 2) (As := [.int (σ 136 (3 : Int32).toNatClampNeg), .int x4]) (rest := []) C G hl.1 (ctX12_has _  hc) ⟨wd_1069, wd_1070, wd_81, wd_1071⟩ (by decide +kernel) rfl ⟨rfl, rfl⟩ ⟨Nat.le_of_ble_eq_true rfl, Nat.le_of_ble_eq_true rfl⟩ (Nat.le_of_ble_eq_true rfl) ⟨Nat.le_of_ble_eq_true rfl, Nat.le_of_ble_eq_true rfl⟩ dX12_best_41 rfl (fun H locs G => ?_)
    refine lv_if_ne (tgt := 82) hx hb dX12_best_44 (by decide) (fun c_7 => ?_) (fun c_7 => ?_)
    · replace hs := ifF c_7 hs
      exact wX12_best_82 C  hh hxx hs G (lv_sub hl [0, 1, 2, 3, 4] rfl)
    · replace hs := ifT c_7 hs
      refine lv_aload_n hx hb dX12_best_47 rfl (lv_at hl 0 rfl) ?_
      refine lv_iload hx hb dX12_best_48 (lv_at hl 4 rfl) ?_
      refine lv_iload_n hx hb dX12_best_50 rfl (lv_at hl 1 rfl) ?_
      obtain ⟨r_9, σ_9, hc, hs⟩ := biE hs
      refine callVI (ar := 2) (As := [.int x4, .int x1]) (rest := []) C G hl.1 (ctX12_bargain _  hc) ⟨wd_1116, wd_1118, wd_50, wd_81, wd_1119⟩ (by decide +kernel) rfl ⟨rfl, rfl⟩ ⟨Nat.le_of_ble_eq_true rfl, Nat.le_of_ble_eq_true rfl⟩ (kd_lt kd_132 (by decide)) (ent_12 b cI cZ cO _ kd_132) rfl (Nat.le_of_ble_eq_true rfl) ⟨Nat.le_of_ble_eq_true rfl, Nat.le_of_ble_eq_true rfl⟩ dX12_best_51 rfl (fun H locs G => ?_)
      refine lv_istore (lv' := [(5, .int r_9), (0, .ref (b + 132)), (1, .int x1), (2, .int x2), (3, .int x3), (4, .int x4)]) hx hb dX12_best_54 hl (by decide) rfl (fun ls hl => ?_)
      refine lv_iload hx hb dX12_best_56 (lv_at hl 0 rfl) ?_
      refine lv_iload_n hx hb dX12_best_58 rfl (lv_at hl 4 rfl) ?_
      refine lv_icmp_ge (tgt := 67) hx hb dX12_best_59 (by decide) (fun c_10 => ?_) (fun c_10 => ?_)
      · replace hs := ifT c_10 hs
        refine lv_iload_n hx hb dX12_best_67 rfl (lv_at hl 3 rfl) ?_
        exact wX12_best_68 C  hh hxx hs G (lv_sub hl [1, 2, 4, 5, 0] rfl)
      · replace hs := ifF c_10 hs
        refine lv_iload hx hb dX12_best_62 (lv_at hl 5 rfl) ?_
        refine lv_goto (tgt := 68) hx hb dX12_best_64 (by decide) ?_
        exact wX12_best_68 C  hh hxx hs G (lv_sub hl [1, 2, 4, 5, 0] rfl)
def fX12_best_24 : Nat → (Sg → Int32 → Option (Int32 × Sg)) → Sg → Int32 → Int32 → Int32 → Int32 → Option (Int32 × Sg)
  | 0, _, _, _, _, _, _ => none
  | fu + 1, kx, σ, x1, x2, x3, x4 => fX12_best_24b (fX12_best_24 fu kx) kx σ x1 x2 x3 x4
theorem fX12_best_24_s (fu : Nat) (kx : Sg → Int32 → Option (Int32 × Sg)) (σ : Sg) (x1 : Int32) (x2 : Int32) (x3 : Int32) (x4 : Int32) : fX12_best_24 (fu + 1) kx σ x1 x2 x3 x4 = fX12_best_24b (fX12_best_24 fu kx) kx σ x1 x2 x3 x4 := by rw [fX12_best_24]
theorem wX12_best_24 {p : Program} {l : Launch} {e : Env} {s : State} {m : MethodId} {args : Array Value} {below : List Frame} {meth : Method} {c : Code} {D : va_G} {cI cZ cO : ClassId} {b : Nat} (C : Cx p s m args meth c cX12_best RX12 6 (some .int) D cI cZ cO) {Rr : (Int32 × Sg)} {kx : Sg → Int32 → Option (Int32 × Sg)} (hxx : ∀ (σ : Sg) (x2 : Int32) (H : Heap) (locs : List Loc) (ls : Array Slot), kx σ x2 = some Rr → Gd b D cI cZ cO σ s.heap H locs → lv_has ls 6 [(2, .int x2)] → W p l e rmX12_best s m args below meth c H locs 0 0 (MQ below (QI b D cI cZ cO Rr) args s 0 0 (fun q => b ≤ q)) (F0 m 88 ls [])) : ∀ (fu : Nat) (σ : Sg) (x1 : Int32) (x2 : Int32) (x3 : Int32) (x4 : Int32) (H : Heap) (locs : List Loc) (ls : Array Slot), fX12_best_24 fu kx σ x1 x2 x3 x4 = some Rr → Gd b D cI cZ cO σ s.heap H locs → lv_has ls 6 [(0, .ref (b + 132)), (1, .int x1), (2, .int x2), (3, .int x3), (4, .int x4)] → W p l e rmX12_best s m args below meth c H locs 0 0 (MQ below (QI b D cI cZ cO Rr) args s 0 0 (fun q => b ≤ q)) (F0 m 24 ls []) := by
  intro fu
  induction fu with
  | zero => intro σ x1 x2 x3 x4 H locs ls hs; cases hs
  | succ fu ih =>
    intro σ x1 x2 x3 x4 H locs ls hs G hl
    exact wX12_best_24b C (fun σ x1 x2 x3 x4 H locs ls hs G hl => ih σ x1 x2 x3 x4 H locs ls hs G hl) hxx hs G hl
def fX12_best (σ : Sg) (x1 : Int32) : Option (Int32 × Sg) :=
  bi (fX12_in σ x1.toInt64 0 99) (fun r_1 σ_1 => (if r_1 = 0 then some ((-1000000002), σ_1) else lt (-1) (fun x2_3 => fX12_best_24 FU (fun σ_12 x2_12 => some (x2_12, σ_12)) σ_1 x1 x2_3 100000000 0)))
set_option maxRecDepth 100000 in
set_option maxHeartbeats 4000000 in
theorem ctX12_best (l : Launch) {D : va_G} {cI cZ cO : ClassId} {b : Nat} {σ : Sg} {x1 : Int32} {Rr : (Int32 × Sg)} (hs : fX12_best σ x1 = some Rr) : MI l yX12_best cX12_best 6 (some .int) rmX12_best [.ref (b + 132), .int x1] b D cI cZ cO σ Rr := by
  unfold fX12_best at hs
  refine metI (by decide +kernel) (Nat.le_of_ble_eq_true rfl) (fun p e s m below meth c ls C G hl => ?_)
  have C : Cx p s m _ meth c cX12_best RX12 6 (some .int) D cI cZ cO := C
  have hx := C.1
  have hb := C.2.1
  have hl : lv_has ls 6 [(0, .ref (b + 132)), (1, .int x1)] := hl
  refine lv_iload_n hx hb dX12_best_0 rfl (lv_at hl 1 rfl) ?_
  refine lv_i2l hx hb dX12_best_1 rfl ?_
  refine lv_lconst (v := 0) hx hb dX12_best_2 (by decide) ?_
  refine m_ldc2 C wd_1152 dX12_best_3 ?_
  obtain ⟨r_1, σ_1, hc, hs⟩ := biE hs
  refine callSI (ar := 3) (As := [.long x1.toInt64, .long 0, .long 99]) (rest := []) C G hl.1 (ctX12_in _  hc) ⟨wd_988, wd_989, wd_81, wd_990⟩ (by decide +kernel) rfl ⟨rfl, rfl⟩ ⟨Nat.le_of_ble_eq_true rfl, Nat.le_of_ble_eq_true rfl⟩ (Nat.le_of_ble_eq_true rfl) ⟨Nat.le_of_ble_eq_true rfl, Nat.le_of_ble_eq_true rfl⟩ dX12_best_6 rfl (fun H locs G => ?_)
  refine lv_if_ne (tgt := 15) hx hb dX12_best_9 (by decide) (fun c_2 => ?_) (fun c_2 => ?_)
  · replace hs := ifF c_2 hs
    refine lv_iconst (v := (-1)) hx hb dX12_best_15 (by decide) ?_
    refine topI hs (fun x2_3 hs => ?_)
    refine lv_istore_n (lv' := [(2, .int x2_3), (0, .ref (b + 132)), (1, .int x1)]) hx hb dX12_best_16 rfl hl (by decide) rfl (fun ls hl => ?_)
    refine m_ldcw C wd_1216 dX12_best_17 ?_
    refine lv_istore_n (lv' := [(3, .int 100000000), (2, .int x2_3), (0, .ref (b + 132)), (1, .int x1)]) hx hb dX12_best_20 rfl hl (by decide) rfl (fun ls hl => ?_)
    refine lv_iconst (v := 0) hx hb dX12_best_21 (by decide) ?_
    refine lv_istore (lv' := [(4, .int 0), (3, .int 100000000), (2, .int x2_3), (0, .ref (b + 132)), (1, .int x1)]) hx hb dX12_best_22 hl (by decide) rfl (fun ls hl => ?_)
    refine wX12_best_24 C (fun σ_12 x2_12 H locs ls hs G hl => ?_) FU _ _ _ _ _ _ _ _ hs G (lv_sub hl [3, 4, 2, 1, 0] rfl)
    refine lv_iload_n hx hb dX12_best_88 rfl (lv_at hl 0 rfl) ?_
    exact retI C G hs dX12_best_89
  · replace hs := ifT c_2 hs
    refine m_ldc C wd_991 dX12_best_12 ?_
    exact retI C G hs dX12_best_14
-- X12_leftBy
def rmX12_leftBy : Room := { frames := 2, cells := 0, slots := 0, locals := 48 }
def fX12_leftBy (σ : Sg) (x1 : Int32) (x2 : Int32) : Option (Int32 × Sg) :=
  (if inb (12 + x1) 60 then bi (fX12_bargain σ x2 (σ 136 (12 + x1).toNatClampNeg)) (fun r_2 σ_2 => some (r_2, σ_2)) else none)
set_option maxRecDepth 100000 in
set_option maxHeartbeats 4000000 in
theorem ctX12_leftBy (l : Launch) {D : va_G} {cI cZ cO : ClassId} {b : Nat} {σ : Sg} {x1 : Int32} {x2 : Int32} {Rr : (Int32 × Sg)} (hs : fX12_leftBy σ x1 x2 = some Rr) : MI l yX12_leftBy cX12_leftBy 3 (some .int) rmX12_leftBy [.ref (b + 132), .int x1, .int x2] b D cI cZ cO σ Rr := by
  unfold fX12_leftBy at hs
  refine metI (by decide +kernel) (Nat.le_of_ble_eq_true rfl) (fun p e s m below meth c ls C G hl => ?_)
  have C : Cx p s m _ meth c cX12_leftBy RX12 3 (some .int) D cI cZ cO := C
  have hx := C.1
  have hb := C.2.1
  have hl : lv_has ls 3 [(0, .ref (b + 132)), (1, .int x1), (2, .int x2)] := hl
  refine lv_aload_n hx hb dX12_leftBy_0 rfl (lv_at hl 0 rfl) ?_
  refine lv_iload_n hx hb dX12_leftBy_1 rfl (lv_at hl 2 rfl) ?_
  refine lv_aload_n hx hb dX12_leftBy_2 rfl (lv_at hl 0 rfl) ?_
  refine gf_X12_19 C G kd_132 (n' := 136) rfl dX12_leftBy_3 ?_
  refine lv_bipush (v := 12) hx hb dX12_leftBy_6 (by decide) ?_
  refine lv_iload_n hx hb dX12_leftBy_8 rfl (lv_at hl 1 rfl) ?_
  refine lv_iadd hx hb dX12_leftBy_9 ?_
  obtain ⟨g_1, hs⟩ := gdE hs
  refine m_iald C G kd_136 ln_136 g_1 dX12_leftBy_10 ?_
  obtain ⟨r_2, σ_2, hc, hs⟩ := biE hs
  refine callVI (ar := 2) (As := [.int x2, .int (σ 136 (12 + x1).toNatClampNeg)]) (rest := []) C G hl.1 (ctX12_bargain _  hc) ⟨wd_1116, wd_1118, wd_50, wd_81, wd_1119⟩ (by decide +kernel) rfl ⟨rfl, rfl⟩ ⟨Nat.le_of_ble_eq_true rfl, Nat.le_of_ble_eq_true rfl⟩ (kd_lt kd_132 (by decide)) (ent_12 b cI cZ cO _ kd_132) rfl (Nat.le_of_ble_eq_true rfl) ⟨Nat.le_of_ble_eq_true rfl, Nat.le_of_ble_eq_true rfl⟩ dX12_leftBy_11 rfl (fun H locs G => ?_)
  exact retI C G hs dX12_leftBy_14
