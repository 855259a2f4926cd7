-- X12_ringOf
def rmX12_ringOf : Room := { frames := 0, cells := 0, slots := 0, locals := 0 }
def fX12_ringOf_4b (kh : Sg → Int32 → Int32 → Option (Int32 × Sg)) (kx : Sg → Int32 → Option (Int32 × Sg)) (σ : Sg) (x2 : Int32) (x3 : Int32) : Option (Int32 × Sg) :=
  (if (σ 132 3) ≤ x3 then kx σ x2 else (if inb x2 7 then (if (σ 135 x2.toNatClampNeg) = (-1) then kx σ x2 else (if inb x2 7 then lt (σ 135 x2.toNatClampNeg) (fun x2_5 => lt (x3 + 1) (fun x3_6 => kh σ x2_5 x3_6)) else none)) else none))
set_option maxRecDepth 100000 in
set_option maxHeartbeats 4000000 in
theorem wX12_ringOf_4b {p : Program} {l : Launch} {e : Env} {s : State} {m : MethodId} {args : Array Value} {below : List Frame} {meth : Method} {c : Code} {D : va_G} {cI cZ cO : ClassId} {b : Nat} (C : Cx p s m args meth c cX12_ringOf RX12 5 (some .int) D cI cZ cO) {Rr : (Int32 × Sg)} {kh : Sg → Int32 → Int32 → Option (Int32 × Sg)} {kx : Sg → Int32 → Option (Int32 × Sg)} (hh : ∀ (σ : Sg) (x2 : Int32) (x3 : Int32) (H : Heap) (locs : List Loc) (ls : Array Slot), kh σ x2 x3 = some Rr → Gd b D cI cZ cO σ s.heap H locs → lv_has ls 5 [(0, .ref (b + 132)), (2, .int x2), (3, .int x3)] → W p l e rmX12_ringOf s m args below meth c H locs 0 0 (MQ below (QI b D cI cZ cO Rr) args s 0 0 (fun q => b ≤ q)) (F0 m 4 ls [])) (hxx : ∀ (σ : Sg) (x2 : Int32) (H : Heap) (locs : List Loc) (ls : Array Slot), kx σ x2 = some Rr → Gd b D cI cZ cO σ s.heap H locs → lv_has ls 5 [(0, .ref (b + 132)), (2, .int x2)] → W p l e rmX12_ringOf s m args below meth c H locs 0 0 (MQ below (QI b D cI cZ cO Rr) args s 0 0 (fun q => b ≤ q)) (F0 m 35 ls [])) {σ : Sg} {x2 : Int32} {x3 : Int32} {H : Heap} {locs : List Loc} {ls : Array Slot} (hs : fX12_ringOf_4b kh kx σ x2 x3 = some Rr) (G : Gd b D cI cZ cO σ s.heap H locs) (hl : lv_has ls 5 [(0, .ref (b + 132)), (2, .int x2), (3, .int x3)]) : W p l e rmX12_ringOf s m args below meth c H locs 0 0 (MQ below (QI b D cI cZ cO Rr) args s 0 0 (fun q => b ≤ q)) (F0 m 4 ls []) := by
  have hx := C.1
  have hb := C.2.1
  unfold fX12_ringOf_4b at hs
  refine lv_iload_n hx hb dX12_ringOf_4 rfl (lv_at hl 2 rfl) ?_
  refine lv_aload_n hx hb dX12_ringOf_5 rfl (lv_at hl 0 rfl) ?_
  refine gf_X12_72 C G kd_132 dX12_ringOf_6 ?_
  refine lv_icmp_ge (tgt := 35) hx hb dX12_ringOf_9 (by decide) (fun c_1 => ?_) (fun c_1 => ?_)
  · replace hs := ifT c_1 hs
    exact hxx _ _ _ _ _ hs G (lv_sub hl [0, 1] rfl)
  · replace hs := ifF c_1 hs
    refine lv_aload_n hx hb dX12_ringOf_12 rfl (lv_at hl 0 rfl) ?_
    refine gf_X12_16 C G kd_132 (n' := 135) rfl dX12_ringOf_13 ?_
    refine lv_iload_n hx hb dX12_ringOf_16 rfl (lv_at hl 1 rfl) ?_
    obtain ⟨g_2, hs⟩ := gdE hs
    refine m_iald C G kd_135 ln_135 g_2 dX12_ringOf_17 ?_
    refine lv_iconst (v := (-1)) hx hb dX12_ringOf_18 (by decide) ?_
    refine lv_icmp_eq (tgt := 35) hx hb dX12_ringOf_19 (by decide) (fun c_3 => ?_) (fun c_3 => ?_)
    · replace hs := ifT c_3 hs
      exact hxx _ _ _ _ _ hs G (lv_sub hl [0, 1] rfl)
    · replace hs := ifF c_3 hs
      refine lv_aload_n hx hb dX12_ringOf_22 rfl (lv_at hl 0 rfl) ?_
      refine gf_X12_16 C G kd_132 (n' := 135) rfl dX12_ringOf_23 ?_
      refine lv_iload_n hx hb dX12_ringOf_26 rfl (lv_at hl 1 rfl) ?_
      obtain ⟨g_4, hs⟩ := gdE hs
      refine m_iald C G kd_135 ln_135 g_4 dX12_ringOf_27 ?_
      refine topI hs (fun x2_5 hs => ?_)
      refine lv_istore_n (lv' := [(2, .int x2_5), (0, .ref (b + 132)), (3, .int x3)]) hx hb dX12_ringOf_28 rfl hl (by decide) rfl (fun ls hl => ?_)
      obtain ⟨x3_6, e_6, hs⟩ := ltE hs
      refine lv_iinc (v := x3_6) (lv' := [(3, .int x3_6), (2, .int x2_5), (0, .ref (b + 132))]) hx hb dX12_ringOf_29 hl (k := 2) rfl (by rw [e_6]; rfl) (by decide) rfl (fun ls hl => ?_)
      refine lv_goto (tgt := 4) hx hb dX12_ringOf_32 (by decide) ?_
      exact hh _ _ _ _ _ _ hs G (lv_sub hl [2, 1, 0] rfl)
def fX12_ringOf_4 : Nat → (Sg → Int32 → Option (Int32 × Sg)) → Sg → Int32 → Int32 → Option (Int32 × Sg)
  | 0, _, _, _, _ => none
  | fu + 1, kx, σ, x2, x3 => fX12_ringOf_4b (fX12_ringOf_4 fu kx) kx σ x2 x3
theorem fX12_ringOf_4_s (fu : Nat) (kx : Sg → Int32 → Option (Int32 × Sg)) (σ : Sg) (x2 : Int32) (x3 : Int32) : fX12_ringOf_4 (fu + 1) kx σ x2 x3 = fX12_ringOf_4b (fX12_ringOf_4 fu kx) kx σ x2 x3 := by rw [fX12_ringOf_4]
theorem wX12_ringOf_4 {p : Program} {l : Launch} {e : Env} {s : State} {m : MethodId} {args : Array Value} {below : List Frame} {meth : Method} {c : Code} {D : va_G} {cI cZ cO : ClassId} {b : Nat} (C : Cx p s m args meth c cX12_ringOf RX12 5 (some .int) D cI cZ cO) {Rr : (Int32 × Sg)} {kx : Sg → Int32 → Option (Int32 × Sg)} (hxx : ∀ (σ : Sg) (x2 : Int32) (H : Heap) (locs : List Loc) (ls : Array Slot), kx σ x2 = some Rr → Gd b D cI cZ cO σ s.heap H locs → lv_has ls 5 [(0, .ref (b + 132)), (2, .int x2)] → W p l e rmX12_ringOf s m args below meth c H locs 0 0 (MQ below (QI b D cI cZ cO Rr) args s 0 0 (fun q => b ≤ q)) (F0 m 35 ls [])) : ∀ (fu : Nat) (σ : Sg) (x2 : Int32) (x3 : Int32) (H : Heap) (locs : List Loc) (ls : Array Slot), fX12_ringOf_4 fu kx σ x2 x3 = some Rr → Gd b D cI cZ cO σ s.heap H locs → lv_has ls 5 [(0, .ref (b + 132)), (2, .int x2), (3, .int x3)] → W p l e rmX12_ringOf s m args below meth c H locs 0 0 (MQ below (QI b D cI cZ cO Rr) args s 0 0 (fun q => b ≤ q)) (F0 m 4 ls []) := by
  intro fu
  induction fu with
  | zero => intro σ x2 x3 H locs ls hs; cases hs
  | succ fu ih =>
    intro σ x2 x3 H locs ls hs G hl
    exact wX12_ringOf_4b C (fun σ x2 x3 H locs ls hs G hl => ih σ x2 x3 H locs ls hs G hl) hxx hs G hl
def fX12_ringOf_62b (kh : Sg → Int32 → Int32 → Int32 → Option (Int32 × Sg)) (kx : Sg → Int32 → Option (Int32 × Sg)) (σ : Sg) (x2 : Int32) (x3 : Int32) (x4 : Int32) : Option (Int32 × Sg) :=
  (if x4 = x2 then kx σ x3 else lt (x3 + 1) (fun x3_14 => (if inb x4 7 then lt (σ 135 x4.toNatClampNeg) (fun x4_16 => kh σ x2 x3_14 x4_16) else none)))
set_option maxRecDepth 100000 in
set_option maxHeartbeats 4000000 in
theorem wX12_ringOf_62b {p : Program} {l : Launch} {e : Env} {s : State} {m : MethodId} {args : Array Value} {below : List Frame} {meth : Method} {c : Code} {D : va_G} {cI cZ cO : ClassId} {b : Nat} (C : Cx p s m args meth c cX12_ringOf RX12 5 (some .int) D cI cZ cO) {Rr : (Int32 × Sg)} {kh : Sg → Int32 → Int32 → Int32 → Option (Int32 × Sg)} {kx : Sg → Int32 → Option (Int32 × Sg)} (hh : ∀ (σ : Sg) (x2 : Int32) (x3 : Int32) (x4 : Int32) (H : Heap) (locs : List Loc) (ls : Array Slot), kh σ x2 x3 x4 = some Rr → Gd b D cI cZ cO σ s.heap H locs → lv_has ls 5 [(0, .ref (b + 132)), (2, .int x2), (3, .int x3), (4, .int x4)] → W p l e rmX12_ringOf s m args below meth c H locs 0 0 (MQ below (QI b D cI cZ cO Rr) args s 0 0 (fun q => b ≤ q)) (F0 m 62 ls [])) (hxx : ∀ (σ : Sg) (x3 : Int32) (H : Heap) (locs : List Loc) (ls : Array Slot), kx σ x3 = some Rr → Gd b D cI cZ cO σ s.heap H locs → lv_has ls 5 [(3, .int x3)] → W p l e rmX12_ringOf s m args below meth c H locs 0 0 (MQ below (QI b D cI cZ cO Rr) args s 0 0 (fun q => b ≤ q)) (F0 m 83 ls [])) {σ : Sg} {x2 : Int32} {x3 : Int32} {x4 : Int32} {H : Heap} {locs : List Loc} {ls : Array Slot} (hs : fX12_ringOf_62b kh kx σ x2 x3 x4 = some Rr) (G : Gd b D cI cZ cO σ s.heap H locs) (hl : lv_has ls 5 [(0, .ref (b + 132)), (2, .int x2), (3, .int x3), (4, .int x4)]) : W p l e rmX12_ringOf s m args below meth c H locs 0 0 (MQ below (QI b D cI cZ cO Rr) args s 0 0 (fun q => b ≤ q)) (F0 m 62 ls []) := by
  have hx := C.1
  have hb := C.2.1
  unfold fX12_ringOf_62b at hs
  refine lv_iload hx hb dX12_ringOf_62 (lv_at hl 3 rfl) ?_
  refine lv_iload_n hx hb dX12_ringOf_64 rfl (lv_at hl 1 rfl) ?_
  refine lv_icmp_eq (tgt := 83) hx hb dX12_ringOf_65 (by decide) (fun c_13 => ?_) (fun c_13 => ?_)
  · replace hs := ifT c_13 hs
    exact hxx _ _ _ _ _ hs G (lv_sub hl [2] rfl)
  · replace hs := ifF c_13 hs
    obtain ⟨x3_14, e_14, hs⟩ := ltE hs
    refine lv_iinc (v := x3_14) (lv' := [(3, .int x3_14), (0, .ref (b + 132)), (2, .int x2), (4, .int x4)]) hx hb dX12_ringOf_68 hl (k := 2) rfl (by rw [e_14]; rfl) (by decide) rfl (fun ls hl => ?_)
    refine lv_aload_n hx hb dX12_ringOf_71 rfl (lv_at hl 1 rfl) ?_
    refine gf_X12_16 C G kd_132 (n' := 135) rfl dX12_ringOf_72 ?_
    refine lv_iload hx hb dX12_ringOf_75 (lv_at hl 3 rfl) ?_
    obtain ⟨g_15, hs⟩ := gdE hs
    refine m_iald C G kd_135 ln_135 g_15 dX12_ringOf_77 ?_
    refine topI hs (fun x4_16 hs => ?_)
    refine lv_istore (lv' := [(4, .int x4_16), (3, .int x3_14), (0, .ref (b + 132)), (2, .int x2)]) hx hb dX12_ringOf_78 hl (by decide) rfl (fun ls hl => ?_)
    refine lv_goto (tgt := 62) hx hb dX12_ringOf_80 (by decide) ?_
    exact hh _ _ _ _ _ _ _ hs G (lv_sub hl [2, 3, 1, 0] rfl)
def fX12_ringOf_62 : Nat → (Sg → Int32 → Option (Int32 × Sg)) → Sg → Int32 → Int32 → Int32 → Option (Int32 × Sg)
  | 0, _, _, _, _, _ => none
  | fu + 1, kx, σ, x2, x3, x4 => fX12_ringOf_62b (fX12_ringOf_62 fu kx) kx σ x2 x3 x4
theorem fX12_ringOf_62_s (fu : Nat) (kx : Sg → Int32 → Option (Int32 × Sg)) (σ : Sg) (x2 : Int32) (x3 : Int32) (x4 : Int32) : fX12_ringOf_62 (fu + 1) kx σ x2 x3 x4 = fX12_ringOf_62b (fX12_ringOf_62 fu kx) kx σ x2 x3 x4 := by rw [fX12_ringOf_62]
theorem wX12_ringOf_62 {p : Program} {l : Launch} {e : Env} {s : State} {m : MethodId} {args : Array Value} {below : List Frame} {meth : Method} {c : Code} {D : va_G} {cI cZ cO : ClassId} {b : Nat} (C : Cx p s m args meth c cX12_ringOf RX12 5 (some .int) D cI cZ cO) {Rr : (Int32 × Sg)} {kx : Sg → Int32 → Option (Int32 × Sg)} (hxx : ∀ (σ : Sg) (x3 : Int32) (H : Heap) (locs : List Loc) (ls : Array Slot), kx σ x3 = some Rr → Gd b D cI cZ cO σ s.heap H locs → lv_has ls 5 [(3, .int x3)] → W p l e rmX12_ringOf s m args below meth c H locs 0 0 (MQ below (QI b D cI cZ cO Rr) args s 0 0 (fun q => b ≤ q)) (F0 m 83 ls [])) : ∀ (fu : Nat) (σ : Sg) (x2 : Int32) (x3 : Int32) (x4 : Int32) (H : Heap) (locs : List Loc) (ls : Array Slot), fX12_ringOf_62 fu kx σ x2 x3 x4 = some Rr → Gd b D cI cZ cO σ s.heap H locs → lv_has ls 5 [(0, .ref (b + 132)), (2, .int x2), (3, .int x3), (4, .int x4)] → W p l e rmX12_ringOf s m args below meth c H locs 0 0 (MQ below (QI b D cI cZ cO Rr) args s 0 0 (fun q => b ≤ q)) (F0 m 62 ls []) := by
  intro fu
  induction fu with
  | zero => intro σ x2 x3 x4 H locs ls hs; cases hs
  | succ fu ih =>
    intro σ x2 x3 x4 H locs ls hs G hl
    exact wX12_ringOf_62b C (fun σ x2 x3 x4 H locs ls hs G hl => ih σ x2 x3 x4 H locs ls hs G hl) hxx hs G hl
def fX12_ringOf_35 (σ : Sg) (x2 : Int32) : Option (Int32 × Sg) :=
  lt (st σ 132 24 x2) (fun σ_8 => (if inb x2 7 then (if (σ_8 135 x2.toNatClampNeg) = (-1) then some ((-1), σ_8) else (if inb x2 7 then lt (σ_8 135 x2.toNatClampNeg) (fun x4_12 => fX12_ringOf_62 FU (fun σ_17 x3_17 => some (x3_17, σ_17)) σ_8 x2 1 x4_12) else none)) else none))
set_option maxRecDepth 100000 in
set_option maxHeartbeats 4000000 in
theorem wX12_ringOf_35 {p : Program} {l : Launch} {e : Env} {s : State} {m : MethodId} {args : Array Value} {below : List Frame} {meth : Method} {c : Code} {D : va_G} {cI cZ cO : ClassId} {b : Nat} (C : Cx p s m args meth c cX12_ringOf RX12 5 (some .int) D cI cZ cO) {Rr : (Int32 × Sg)} {σ : Sg} {x2 : Int32} {H : Heap} {locs : List Loc} {ls : Array Slot} (hs : fX12_ringOf_35 σ x2 = some Rr) (G : Gd b D cI cZ cO σ s.heap H locs) (hl : lv_has ls 5 [(0, .ref (b + 132)), (2, .int x2)]) : W p l e rmX12_ringOf s m args below meth c H locs 0 0 (MQ below (QI b D cI cZ cO Rr) args s 0 0 (fun q => b ≤ q)) (F0 m 35 ls []) := by
  have hx := C.1
  have hb := C.2.1
  unfold fX12_ringOf_35 at hs
  refine lv_aload_n hx hb dX12_ringOf_35 rfl (lv_at hl 0 rfl) ?_
  refine lv_iload_n hx hb dX12_ringOf_36 rfl (lv_at hl 1 rfl) ?_
  refine pf_X12_209 C G kd_132 hs dX12_ringOf_37 (fun σ_8 H locs hs G => ?_)
  refine lv_aload_n hx hb dX12_ringOf_40 rfl (lv_at hl 0 rfl) ?_
  refine gf_X12_16 C G kd_132 (n' := 135) rfl dX12_ringOf_41 ?_
  refine lv_iload_n hx hb dX12_ringOf_44 rfl (lv_at hl 1 rfl) ?_
  obtain ⟨g_9, hs⟩ := gdE hs
  refine m_iald C G kd_135 ln_135 g_9 dX12_ringOf_45 ?_
  refine lv_iconst (v := (-1)) hx hb dX12_ringOf_46 (by decide) ?_
  refine lv_icmp_ne (tgt := 52) hx hb dX12_ringOf_47 (by decide) (fun c_10 => ?_) (fun c_10 => ?_)
  · replace hs := ifF c_10 hs
    refine lv_iconst (v := 1) hx hb dX12_ringOf_52 (by decide) ?_
    refine lv_istore_n (lv' := [(3, .int 1), (0, .ref (b + 132)), (2, .int x2)]) hx hb dX12_ringOf_53 rfl hl (by decide) rfl (fun ls hl => ?_)
    refine lv_aload_n hx hb dX12_ringOf_54 rfl (lv_at hl 1 rfl) ?_
    refine gf_X12_16 C G kd_132 (n' := 135) rfl dX12_ringOf_55 ?_
    refine lv_iload_n hx hb dX12_ringOf_58 rfl (lv_at hl 2 rfl) ?_
    obtain ⟨g_11, hs⟩ := gdE hs
    refine m_iald C G kd_135 ln_135 g_11 dX12_ringOf_59 ?_
    refine topI hs (fun x4_12 hs => ?_)
    refine lv_istore (lv' := [(4, .int x4_12), (3, .int 1), (0, .ref (b + 132)), (2, .int x2)]) hx hb dX12_ringOf_60 hl (by decide) rfl (fun ls hl => ?_)
    refine wX12_ringOf_62 C (fun σ_17 x3_17 H locs ls hs G hl => ?_) FU _ _ _ _ _ _ _ hs G (lv_sub hl [2, 3, 1, 0] rfl)
    refine lv_iload_n hx hb dX12_ringOf_83 rfl (lv_at hl 0 rfl) ?_
    exact retI C G hs dX12_ringOf_84
  · replace hs := ifT c_10 hs
    refine lv_iconst (v := (-1)) hx hb dX12_ringOf_50 (by decide) ?_
    exact retI C G hs dX12_ringOf_51
def fX12_ringOf (σ : Sg) (x1 : Int32) : Option (Int32 × Sg) :=
  fX12_ringOf_4 FU (fun σ_7 x2_7 => fX12_ringOf_35 σ_7 x2_7) σ x1 0
set_option maxRecDepth 100000 in
set_option maxHeartbeats 4000000 in
theorem ctX12_ringOf (l : Launch) {D : va_G} {cI cZ cO : ClassId} {b : Nat} {σ : Sg} {x1 : Int32} {Rr : (Int32 × Sg)} (hs : fX12_ringOf σ x1 = some Rr) : MI l yX12_ringOf cX12_ringOf 5 (some .int) rmX12_ringOf [.ref (b + 132), .int x1] b D cI cZ cO σ Rr := by
  unfold fX12_ringOf at hs
  refine metI (by decide +kernel) (Nat.le_of_ble_eq_true rfl) (fun p e s m below meth c ls C G hl => ?_)
  have C : Cx p s m _ meth c cX12_ringOf RX12 5 (some .int) D cI cZ cO := C
  have hx := C.1
  have hb := C.2.1
  have hl : lv_has ls 5 [(0, .ref (b + 132)), (1, .int x1)] := hl
  refine lv_iload_n hx hb dX12_ringOf_0 rfl (lv_at hl 1 rfl) ?_
  refine lv_istore_n (lv' := [(2, .int x1), (0, .ref (b + 132)), (1, .int x1)]) hx hb dX12_ringOf_1 rfl hl (by decide) rfl (fun ls hl => ?_)
  refine lv_iconst (v := 0) hx hb dX12_ringOf_2 (by decide) ?_
  refine lv_istore_n (lv' := [(3, .int 0), (2, .int x1), (0, .ref (b + 132)), (1, .int x1)]) hx hb dX12_ringOf_3 rfl hl (by decide) rfl (fun ls hl => ?_)
  refine wX12_ringOf_4 C (fun σ_7 x2_7 H locs ls hs G hl => ?_) FU _ _ _ _ _ _ hs G (lv_sub hl [2, 1, 0] rfl)
  exact wX12_ringOf_35 C   hs G (lv_sub hl [0, 1] rfl)
-- X12_firstOf
def rmX12_firstOf : Room := { frames := 1, cells := 0, slots := 0, locals := 24 }
def fX12_firstOf (σ : Sg) (x1 : Int32) : Option (Int32 × Sg) :=
  bi (fX12_ringOf σ x1) (fun r_1 σ_1 => (if r_1 = (-1) then some ((σ_1 132 24), σ_1) else some ((-1), σ_1)))
set_option maxRecDepth 100000 in
set_option maxHeartbeats 4000000 in
theorem ctX12_firstOf (l : Launch) {D : va_G} {cI cZ cO : ClassId} {b : Nat} {σ : Sg} {x1 : Int32} {Rr : (Int32 × Sg)} (hs : fX12_firstOf σ x1 = some Rr) : MI l yX12_firstOf cX12_firstOf 2 (some .int) rmX12_firstOf [.ref (b + 132), .int x1] b D cI cZ cO σ Rr := by
  unfold fX12_firstOf at hs
  refine metI (by decide +kernel) (Nat.le_of_ble_eq_true rfl) (fun p e s m below meth c ls C G hl => ?_)
  have C : Cx p s m _ meth c cX12_firstOf RX12 2 (some .int) D cI cZ cO := C
  have hx := C.1
  have hb := C.2.1
  have hl : lv_has ls 2 [(0, .ref (b + 132)), (1, .int x1)] := hl
  refine lv_aload_n hx hb dX12_firstOf_0 rfl (lv_at hl 0 rfl) ?_
  refine lv_iload_n hx hb dX12_firstOf_1 rfl (lv_at hl 1 rfl) ?_
  obtain ⟨r_1, σ_1, hc, hs⟩ := biE hs
  refine callVI (ar := 1) (As := [.int x1]) (rest := []) C G hl.1 (ctX12_ringOf _  hc) ⟨wd_1124, wd_1126, wd_52, wd_81, wd_1127⟩ (by decide +kernel) rfl ⟨rfl, rfl⟩ ⟨Nat.le_of_ble_eq_true rfl, Nat.le_of_ble_eq_true rfl⟩ (kd_lt kd_132 (by decide)) (ent_12 b cI cZ cO _ kd_132) rfl (Nat.le_of_ble_eq_true rfl) ⟨Nat.le_of_ble_eq_true rfl, Nat.le_of_ble_eq_true rfl⟩ dX12_firstOf_2 rfl (fun H locs G => ?_)
  refine lv_iconst (v := (-1)) hx hb dX12_firstOf_5 (by decide) ?_
  refine lv_icmp_ne (tgt := 16) hx hb dX12_firstOf_6 (by decide) (fun c_2 => ?_) (fun c_2 => ?_)
  · replace hs := ifF c_2 hs
    refine lv_iconst (v := (-1)) hx hb dX12_firstOf_16 (by decide) ?_
    exact retI C G hs dX12_firstOf_17
  · replace hs := ifT c_2 hs
    refine lv_aload_n hx hb dX12_firstOf_9 rfl (lv_at hl 0 rfl) ?_
    refine gf_X12_209 C G kd_132 dX12_firstOf_10 ?_
    refine lv_goto (tgt := 17) hx hb dX12_firstOf_13 (by decide) ?_
    exact retI C G hs dX12_firstOf_17
-- X12_person
def rmX12_person : Room := { frames := 3, cells := 0, slots := 0, locals := 71 }
def fX12_person (σ : Sg) (x1 : Int32) (x2 : Int32) : Option (Int32 × Sg) :=
  bi (fX12_isPerson σ x1) (fun r_1 σ_1 => (if r_1 = 0 then some ((-1000000001), σ_1) else (if x2 = 0 then (if inb x1 7 then some ((σ_1 133 x1.toNatClampNeg), σ_1) else none) else (if x2 = 1 then (if inb x1 7 then some ((σ_1 134 x1.toNatClampNeg), σ_1) else none) else (if x2 = 2 then (if inb (5 + x1) 60 then some ((σ_1 136 (5 + x1).toNatClampNeg), σ_1) else none) else (if x2 = 3 then (if inb x1 7 then some ((σ_1 135 x1.toNatClampNeg), σ_1) else none) else (if x2 = 4 then (if inb (12 + x1) 60 then some ((σ_1 136 (12 + x1).toNatClampNeg), σ_1) else none) else (if x2 = 5 then (if inb (19 + x1) 60 then some ((σ_1 136 (19 + x1).toNatClampNeg), σ_1) else none) else (if x2 = 6 then bi (fX12_ridOf σ_1 x1) (fun r_10 σ_10 => some (r_10, σ_10)) else (if x2 = 7 then bi (fX12_ringOf σ_1 x1) (fun r_11 σ_11 => some (r_11, σ_11)) else (if x2 = 8 then bi (fX12_firstOf σ_1 x1) (fun r_12 σ_12 => some (r_12, σ_12)) else some ((-1000000002), σ_1))))))))))))
set_option maxRecDepth 100000 in
set_option maxHeartbeats 4000000 in
theorem ctX12_person (l : Launch) {D : va_G} {cI cZ cO : ClassId} {b : Nat} {σ : Sg} {x1 : Int32} {x2 : Int32} {Rr : (Int32 × Sg)} (hs : fX12_person σ x1 x2 = some Rr) : MI l yX12_person cX12_person 3 (some .int) rmX12_person [.ref (b + 132), .int x1, .int x2] b D cI cZ cO σ Rr := by
  unfold fX12_person at hs
  refine metI (by decide +kernel) (Nat.le_of_ble_eq_true rfl) (fun p e s m below meth c ls C G hl => ?_)
  have C : Cx p s m _ meth c cX12_person RX12 3 (some .int) D cI cZ cO := C
  have hx := C.1
  have hb := C.2.1
  have hl : lv_has ls 3 [(0, .ref (b + 132)), (1, .int x1), (2, .int x2)] := hl
  refine lv_aload_n hx hb dX12_person_0 rfl (lv_at hl 0 rfl) ?_
  refine lv_iload_n hx hb dX12_person_1 rfl (lv_at hl 1 rfl) ?_
  obtain ⟨r_1, σ_1, hc, hs⟩ := biE hs
  refine callVI (ar := 1) (As := [.int x1]) (rest := []) C G hl.1 (ctX12_isPerson _  hc) ⟨wd_1107, wd_1109, wd_48, wd_81, wd_1110⟩ (by decide +kernel) rfl ⟨rfl, rfl⟩ ⟨Nat.le_of_ble_eq_true rfl, Nat.le_of_ble_eq_true rfl⟩ (kd_lt kd_132 (by decide)) (ent_12 b cI cZ cO _ kd_132) rfl (Nat.le_of_ble_eq_true rfl) ⟨Nat.le_of_ble_eq_true rfl, Nat.le_of_ble_eq_true rfl⟩ dX12_person_2 rfl (fun H locs G => ?_)
  refine lv_if_ne (tgt := 11) hx hb dX12_person_5 (by decide) (fun c_2 => ?_) (fun c_2 => ?_)
  · replace hs := ifF c_2 hs
    refine lv_iload_n hx hb dX12_person_11 rfl (lv_at hl 2 rfl) ?_
    by_cases c_3_0 : x2 = 0
    · replace hs := ifT c_3_0 hs
      refine lv_tableIn (tgt := 64) hx hb dX12_person_12 (by rw [c_3_0]; decide) (by rw [c_3_0]; decide) (by rw [c_3_0]; rfl) (by decide) ?_
      refine lv_aload_n hx hb dX12_person_64 rfl (lv_at hl 0 rfl) ?_
      refine gf_X12_7 C G kd_132 (n' := 133) rfl dX12_person_65 ?_
      refine lv_iload_n hx hb dX12_person_68 rfl (lv_at hl 1 rfl) ?_
      obtain ⟨g_4, hs⟩ := gdE hs
      refine m_iald C G kd_133 ln_133 g_4 dX12_person_69 ?_
      exact retI C G hs dX12_person_70
    · replace hs := ifF c_3_0 hs
      by_cases c_3_1 : x2 = 1
      · replace hs := ifT c_3_1 hs
        refine lv_tableIn (tgt := 71) hx hb dX12_person_12 (by rw [c_3_1]; decide) (by rw [c_3_1]; decide) (by rw [c_3_1]; rfl) (by decide) ?_
        refine lv_aload_n hx hb dX12_person_71 rfl (lv_at hl 0 rfl) ?_
        refine gf_X12_13 C G kd_132 (n' := 134) rfl dX12_person_72 ?_
        refine lv_iload_n hx hb dX12_person_75 rfl (lv_at hl 1 rfl) ?_
        obtain ⟨g_5, hs⟩ := gdE hs
        refine m_iald C G kd_134 ln_134 g_5 dX12_person_76 ?_
        exact retI C G hs dX12_person_77
      · replace hs := ifF c_3_1 hs
        by_cases c_3_2 : x2 = 2
        · replace hs := ifT c_3_2 hs
          refine lv_tableIn (tgt := 78) hx hb dX12_person_12 (by rw [c_3_2]; decide) (by rw [c_3_2]; decide) (by rw [c_3_2]; rfl) (by decide) ?_
          refine lv_aload_n hx hb dX12_person_78 rfl (lv_at hl 0 rfl) ?_
          refine gf_X12_19 C G kd_132 (n' := 136) rfl dX12_person_79 ?_
          refine lv_iconst (v := 5) hx hb dX12_person_82 (by decide) ?_
          refine lv_iload_n hx hb dX12_person_83 rfl (lv_at hl 1 rfl) ?_
          refine lv_iadd hx hb dX12_person_84 ?_
          obtain ⟨g_6, hs⟩ := gdE hs
          refine m_iald C G kd_136 ln_136 g_6 dX12_person_85 ?_
          exact retI C G hs dX12_person_86
        · replace hs := ifF c_3_2 hs
          by_cases c_3_3 : x2 = 3
          · replace hs := ifT c_3_3 hs
            refine lv_tableIn (tgt := 87) hx hb dX12_person_12 (by rw [c_3_3]; decide) (by rw [c_3_3]; decide) (by rw [c_3_3]; rfl) (by decide) ?_
            refine lv_aload_n hx hb dX12_person_87 rfl (lv_at hl 0 rfl) ?_
            refine gf_X12_16 C G kd_132 (n' := 135) rfl dX12_person_88 ?_
            refine lv_iload_n hx hb dX12_person_91 rfl (lv_at hl 1 rfl) ?_
            obtain ⟨g_7, hs⟩ := gdE hs
            refine m_iald C G kd_135 ln_135 g_7 dX12_person_92 ?_
            exact retI C G hs dX12_person_93
          · replace hs := ifF c_3_3 hs
            by_cases c_3_4 : x2 = 4
            · replace hs := ifT c_3_4 hs
              refine lv_tableIn (tgt := 94) hx hb dX12_person_12 (by rw [c_3_4]; decide) (by rw [c_3_4]; decide) (by rw [c_3_4]; rfl) (by decide) ?_
              refine lv_aload_n hx hb dX12_person_94 rfl (lv_at hl 0 rfl) ?_
              refine gf_X12_19 C G kd_132 (n' := 136) rfl dX12_person_95 ?_
              refine lv_bipush (v := 12) hx hb dX12_person_98 (by decide) ?_
              refine lv_iload_n hx hb dX12_person_100 rfl (lv_at hl 1 rfl) ?_
              refine lv_iadd hx hb dX12_person_101 ?_
              obtain ⟨g_8, hs⟩ := gdE hs
              refine m_iald C G kd_136 ln_136 g_8 dX12_person_102 ?_
              exact retI C G hs dX12_person_103
            · replace hs := ifF c_3_4 hs
              by_cases c_3_5 : x2 = 5
              · replace hs := ifT c_3_5 hs
                refine lv_tableIn (tgt := 104) hx hb dX12_person_12 (by rw [c_3_5]; decide) (by rw [c_3_5]; decide) (by rw [c_3_5]; rfl) (by decide) ?_
                refine lv_aload_n hx hb dX12_person_104 rfl (lv_at hl 0 rfl) ?_
                refine gf_X12_19 C G kd_132 (n' := 136) rfl dX12_person_105 ?_
                refine lv_bipush (v := 19) hx hb dX12_person_108 (by decide) ?_
                refine lv_iload_n hx hb dX12_person_110 rfl (lv_at hl 1 rfl) ?_
                refine lv_iadd hx hb dX12_person_111 ?_
                obtain ⟨g_9, hs⟩ := gdE hs
                refine m_iald C G kd_136 ln_136 g_9 dX12_person_112 ?_
                exact retI C G hs dX12_person_113
              · replace hs := ifF c_3_5 hs
                by_cases c_3_6 : x2 = 6
                · replace hs := ifT c_3_6 hs
                  refine lv_tableIn (tgt := 114) hx hb dX12_person_12 (by rw [c_3_6]; decide) (by rw [c_3_6]; decide) (by rw [c_3_6]; rfl) (by decide) ?_
                  refine lv_aload_n hx hb dX12_person_114 rfl (lv_at hl 0 rfl) ?_
                  refine lv_iload_n hx hb dX12_person_115 rfl (lv_at hl 1 rfl) ?_
                  obtain ⟨r_10, σ_10, hc, hs⟩ := biE hs
                  refine callVI (ar := 1) (As := [.int x1]) (rest := []) C G hl.1 (ctX12_ridOf _  hc) ⟨wd_1112, wd_1114, wd_49, wd_81, wd_1115⟩ (by decide +kernel) rfl ⟨rfl, rfl⟩ ⟨Nat.le_of_ble_eq_true rfl, Nat.le_of_ble_eq_true rfl⟩ (kd_lt kd_132 (by decide)) (ent_12 b cI cZ cO _ kd_132) rfl (Nat.le_of_ble_eq_true rfl) ⟨Nat.le_of_ble_eq_true rfl, Nat.le_of_ble_eq_true rfl⟩ dX12_person_116 rfl (fun H locs G => ?_)
                  exact retI C G hs dX12_person_119
                · replace hs := ifF c_3_6 hs
                  by_cases c_3_7 : x2 = 7
                  · replace hs := ifT c_3_7 hs
                    refine lv_tableIn (tgt := 120) hx hb dX12_person_12 (by rw [c_3_7]; decide) (by rw [c_3_7]; decide) (by rw [c_3_7]; rfl) (by decide) ?_
                    refine lv_aload_n hx hb dX12_person_120 rfl (lv_at hl 0 rfl) ?_
                    refine lv_iload_n hx hb dX12_person_121 rfl (lv_at hl 1 rfl) ?_
                    obtain ⟨r_11, σ_11, hc, hs⟩ := biE hs
                    refine callVI (ar := 1) (As := [.int x1]) (rest := []) C G hl.1 (ctX12_ringOf _  hc) ⟨wd_1124, wd_1126, wd_52, wd_81, wd_1127⟩ (by decide +kernel) rfl ⟨rfl, rfl⟩ ⟨Nat.le_of_ble_eq_true rfl, Nat.le_of_ble_eq_true rfl⟩ (kd_lt kd_132 (by decide)) (ent_12 b cI cZ cO _ kd_132) rfl (Nat.le_of_ble_eq_true rfl) ⟨Nat.le_of_ble_eq_true rfl, Nat.le_of_ble_eq_true rfl⟩ dX12_person_122 rfl (fun H locs G => ?_)
                    exact retI C G hs dX12_person_125
                  · replace hs := ifF c_3_7 hs
                    by_cases c_3_8 : x2 = 8
                    · replace hs := ifT c_3_8 hs
                      refine lv_tableIn (tgt := 126) hx hb dX12_person_12 (by rw [c_3_8]; decide) (by rw [c_3_8]; decide) (by rw [c_3_8]; rfl) (by decide) ?_
                      refine lv_aload_n hx hb dX12_person_126 rfl (lv_at hl 0 rfl) ?_
                      refine lv_iload_n hx hb dX12_person_127 rfl (lv_at hl 1 rfl) ?_
                      obtain ⟨r_12, σ_12, hc, hs⟩ := biE hs
                      refine callVI (ar := 1) (As := [.int x1]) (rest := []) C G hl.1 (ctX12_firstOf _  hc) ⟨wd_1128, wd_1130, wd_53, wd_81, wd_1131⟩ (by decide +kernel) rfl ⟨rfl, rfl⟩ ⟨Nat.le_of_ble_eq_true rfl, Nat.le_of_ble_eq_true rfl⟩ (kd_lt kd_132 (by decide)) (ent_12 b cI cZ cO _ kd_132) rfl (Nat.le_of_ble_eq_true rfl) ⟨Nat.le_of_ble_eq_true rfl, Nat.le_of_ble_eq_true rfl⟩ dX12_person_128 rfl (fun H locs G => ?_)
                      exact retI C G hs dX12_person_131
                    · replace hs := ifF c_3_8 hs
                      refine lv_tableOut (tgt := 132) hx hb dX12_person_12 (by have t0 := tbl_ne c_3_0 (z := 0) (by decide); have t1 := tbl_ne c_3_1 (z := 1) (by decide); have t2 := tbl_ne c_3_2 (z := 2) (by decide); have t3 := tbl_ne c_3_3 (z := 3) (by decide); have t4 := tbl_ne c_3_4 (z := 4) (by decide); have t5 := tbl_ne c_3_5 (z := 5) (by decide); have t6 := tbl_ne c_3_6 (z := 6) (by decide); have t7 := tbl_ne c_3_7 (z := 7) (by decide); have t8 := tbl_ne c_3_8 (z := 8) (by decide); omega) (by decide) ?_
                      refine m_ldc C wd_991 dX12_person_132 ?_
                      exact retI C G hs dX12_person_134
  · replace hs := ifT c_2 hs
    refine m_ldc C wd_1111 dX12_person_8 ?_
    exact retI C G hs dX12_person_10
-- X12_harmOf
def rmX12_harmOf : Room := { frames := 0, cells := 0, slots := 0, locals := 0 }
def fX12_harmOf_36 (kh : Sg → Int32 → Int32 → Int32 → Option (Int32 × Sg)) (kx : Sg → Int32 → Option (Int32 × Sg)) (σ : Sg) (x1 : Int32) (x3 : Int32) (y0 : Int32) (y1 : Int32) : Option (Int32 × Sg) :=
  lt (y1 + y0) (fun x2_4 => lt (x3 + 1) (fun x3_5 => kh σ x1 x2_4 x3_5))
set_option maxRecDepth 100000 in
set_option maxHeartbeats 4000000 in
theorem wX12_harmOf_36 {p : Program} {l : Launch} {e : Env} {s : State} {m : MethodId} {args : Array Value} {below : List Frame} {meth : Method} {c : Code} {D : va_G} {cI cZ cO : ClassId} {b : Nat} (C : Cx p s m args meth c cX12_harmOf RX12 4 (some .int) D cI cZ cO) {Rr : (Int32 × Sg)} {kh : Sg → Int32 → Int32 → Int32 → Option (Int32 × Sg)} {kx : Sg → Int32 → Option (Int32 × Sg)} (hh : ∀ (σ : Sg) (x1 : Int32) (x2 : Int32) (x3 : Int32) (H : Heap) (locs : List Loc) (ls : Array Slot), kh σ x1 x2 x3 = some Rr → Gd b D cI cZ cO σ s.heap H locs → lv_has ls 4 [(0, .ref (b + 132)), (1, .int x1), (2, .int x2), (3, .int x3)] → W p l e rmX12_harmOf s m args below meth c H locs 0 0 (MQ below (QI b D cI cZ cO Rr) args s 0 0 (fun q => b ≤ q)) (F0 m 4 ls [])) (hxx : ∀ (σ : Sg) (x2 : Int32) (H : Heap) (locs : List Loc) (ls : Array Slot), kx σ x2 = some Rr → Gd b D cI cZ cO σ s.heap H locs → lv_has ls 4 [(2, .int x2)] → W p l e rmX12_harmOf s m args below meth c H locs 0 0 (MQ below (QI b D cI cZ cO Rr) args s 0 0 (fun q => b ≤ q)) (F0 m 44 ls [])) {σ : Sg} {x1 : Int32} {x3 : Int32} {y0 : Int32} {y1 : Int32} {H : Heap} {locs : List Loc} {ls : Array Slot} (hs : fX12_harmOf_36 kh kx σ x1 x3 y0 y1 = some Rr) (G : Gd b D cI cZ cO σ s.heap H locs) (hl : lv_has ls 4 [(0, .ref (b + 132)), (1, .int x1), (3, .int x3)]) : W p l e rmX12_harmOf s m args below meth c H locs 0 0 (MQ below (QI b D cI cZ cO Rr) args s 0 0 (fun q => b ≤ q)) (F0 m 36 ls [.int y0, .int y1]) := by
  have hx := C.1
  have hb := C.2.1
  unfold fX12_harmOf_36 at hs
  refine lv_iadd hx hb dX12_harmOf_36 ?_
  refine topI hs (fun x2_4 hs => ?_)
  refine lv_istore_n (lv' := [(2, .int x2_4), (0, .ref (b + 132)), (1, .int x1), (3, .int x3)]) hx hb dX12_harmOf_37 rfl hl (by decide) rfl (fun ls hl => ?_)
  obtain ⟨x3_5, e_5, hs⟩ := ltE hs
  refine lv_iinc (v := x3_5) (lv' := [(3, .int x3_5), (2, .int x2_4), (0, .ref (b + 132)), (1, .int x1)]) hx hb dX12_harmOf_38 hl (k := 3) rfl (by rw [e_5]; rfl) (by decide) rfl (fun ls hl => ?_)
  refine lv_goto (tgt := 4) hx hb dX12_harmOf_41 (by decide) ?_
  exact hh _ _ _ _ _ _ _ hs G (lv_sub hl [2, 3, 1, 0] rfl)
def fX12_harmOf_4b (kh : Sg → Int32 → Int32 → Int32 → Option (Int32 × Sg)) (kx : Sg → Int32 → Option (Int32 × Sg)) (σ : Sg) (x1 : Int32) (x2 : Int32) (x3 : Int32) : Option (Int32 × Sg) :=
  (if (σ 132 3) ≤ x3 then kx σ x2 else (if inb x3 7 then (if (σ 134 x3.toNatClampNeg) = x1 then (if inb (19 + x3) 60 then fX12_harmOf_36 kh kx σ x1 x3 (σ 136 (19 + x3).toNatClampNeg) x2 else none) else fX12_harmOf_36 kh kx σ x1 x3 0 x2) else none))
set_option maxRecDepth 100000 in
set_option maxHeartbeats 4000000 in
theorem wX12_harmOf_4b {p : Program} {l : Launch} {e : Env} {s : State} {m : MethodId} {args : Array Value} {below : List Frame} {meth : Method} {c : Code} {D : va_G} {cI cZ cO : ClassId} {b : Nat} (C : Cx p s m args meth c cX12_harmOf RX12 4 (some .int) D cI cZ cO) {Rr : (Int32 × Sg)} {kh : Sg → Int32 → Int32 → Int32 → Option (Int32 × Sg)} {kx : Sg → Int32 → Option (Int32 × Sg)} (hh : ∀ (σ : Sg) (x1 : Int32) (x2 : Int32) (x3 : Int32) (H : Heap) (locs : List Loc) (ls : Array Slot), kh σ x1 x2 x3 = some Rr → Gd b D cI cZ cO σ s.heap H locs → lv_has ls 4 [(0, .ref (b + 132)), (1, .int x1), (2, .int x2), (3, .int x3)] → W p l e rmX12_harmOf s m args below meth c H locs 0 0 (MQ below (QI b D cI cZ cO Rr) args s 0 0 (fun q => b ≤ q)) (F0 m 4 ls [])) (hxx : ∀ (σ : Sg) (x2 : Int32) (H : Heap) (locs : List Loc) (ls : Array Slot), kx σ x2 = some Rr → Gd b D cI cZ cO σ s.heap H locs → lv_has ls 4 [(2, .int x2)] → W p l e rmX12_harmOf s m args below meth c H locs 0 0 (MQ below (QI b D cI cZ cO Rr) args s 0 0 (fun q => b ≤ q)) (F0 m 44 ls [])) {σ : Sg} {x1 : Int32} {x2 : Int32} {x3 : Int32} {H : Heap} {locs : List Loc} {ls : Array Slot} (hs : fX12_harmOf_4b kh kx σ x1 x2 x3 = some Rr) (G : Gd b D cI cZ cO σ s.heap H locs) (hl : lv_has ls 4 [(0, .ref (b + 132)), (1, .int x1), (2, .int x2), (3, .int x3)]) : W p l e rmX12_harmOf s m args below meth c H locs 0 0 (MQ below (QI b D cI cZ cO Rr) args s 0 0 (fun q => b ≤ q)) (F0 m 4 ls []) := by
  have hx := C.1
  have hb := C.2.1
  unfold fX12_harmOf_4b at hs
  refine lv_iload_n hx hb dX12_harmOf_4 rfl (lv_at hl 3 rfl) ?_
  refine lv_aload_n hx hb dX12_harmOf_5 rfl (lv_at hl 0 rfl) ?_
  refine gf_X12_72 C G kd_132 dX12_harmOf_6 ?_
  refine lv_icmp_ge (tgt := 44) hx hb dX12_harmOf_9 (by decide) (fun c_1 => ?_) (fun c_1 => ?_)
  · replace hs := ifT c_1 hs
    exact hxx _ _ _ _ _ hs G (lv_sub hl [2] rfl)
  · replace hs := ifF c_1 hs
    refine lv_iload_n hx hb dX12_harmOf_12 rfl (lv_at hl 2 rfl) ?_
    refine lv_aload_n hx hb dX12_harmOf_13 rfl (lv_at hl 0 rfl) ?_
    refine gf_X12_13 C G kd_132 (n' := 134) rfl dX12_harmOf_14 ?_
    refine lv_iload_n hx hb dX12_harmOf_17 rfl (lv_at hl 3 rfl) ?_
    obtain ⟨g_2, hs⟩ := gdE hs
    refine m_iald C G kd_134 ln_134 g_2 dX12_harmOf_18 ?_
    refine lv_iload_n hx hb dX12_harmOf_19 rfl (lv_at hl 1 rfl) ?_
    refine lv_icmp_ne (tgt := 35) hx hb dX12_harmOf_20 (by decide) (fun c_3 => ?_) (fun c_3 => ?_)
    · replace hs := ifF c_3 hs
      refine lv_iconst (v := 0) hx hb dX12_harmOf_35 (by decide) ?_
      exact wX12_harmOf_36 C  hh hxx hs G (lv_sub hl [0, 1, 3] rfl)
    · replace hs := ifT c_3 hs
      refine lv_aload_n hx hb dX12_harmOf_23 rfl (lv_at hl 0 rfl) ?_
      refine gf_X12_19 C G kd_132 (n' := 136) rfl dX12_harmOf_24 ?_
      refine lv_bipush (v := 19) hx hb dX12_harmOf_27 (by decide) ?_
      refine lv_iload_n hx hb dX12_harmOf_29 rfl (lv_at hl 3 rfl) ?_
      refine lv_iadd hx hb dX12_harmOf_30 ?_
      obtain ⟨g_6, hs⟩ := gdE hs
      refine m_iald C G kd_136 ln_136 g_6 dX12_harmOf_31 ?_
      refine lv_goto (tgt := 36) hx hb dX12_harmOf_32 (by decide) ?_
      exact wX12_harmOf_36 C  hh hxx hs G (lv_sub hl [0, 1, 3] rfl)
def fX12_harmOf_4 : Nat → (Sg → Int32 → Option (Int32 × Sg)) → Sg → Int32 → Int32 → Int32 → Option (Int32 × Sg)
  | 0, _, _, _, _, _ => none
  | fu + 1, kx, σ, x1, x2, x3 => fX12_harmOf_4b (fX12_harmOf_4 fu kx) kx σ x1 x2 x3
theorem fX12_harmOf_4_s (fu : Nat) (kx : Sg → Int32 → Option (Int32 × Sg)) (σ : Sg) (x1 : Int32) (x2 : Int32) (x3 : Int32) : fX12_harmOf_4 (fu + 1) kx σ x1 x2 x3 = fX12_harmOf_4b (fX12_harmOf_4 fu kx) kx σ x1 x2 x3 := by rw [fX12_harmOf_4]
theorem wX12_harmOf_4 {p : Program} {l : Launch} {e : Env} {s : State} {m : MethodId} {args : Array Value} {below : List Frame} {meth : Method} {c : Code} {D : va_G} {cI cZ cO : ClassId} {b : Nat} (C : Cx p s m args meth c cX12_harmOf RX12 4 (some .int) D cI cZ cO) {Rr : (Int32 × Sg)} {kx : Sg → Int32 → Option (Int32 × Sg)} (hxx : ∀ (σ : Sg) (x2 : Int32) (H : Heap) (locs : List Loc) (ls : Array Slot), kx σ x2 = some Rr → Gd b D cI cZ cO σ s.heap H locs → lv_has ls 4 [(2, .int x2)] → W p l e rmX12_harmOf s m args below meth c H locs 0 0 (MQ below (QI b D cI cZ cO Rr) args s 0 0 (fun q => b ≤ q)) (F0 m 44 ls [])) : ∀ (fu : Nat) (σ : Sg) (x1 : Int32) (x2 : Int32) (x3 : Int32) (H : Heap) (locs : List Loc) (ls : Array Slot), fX12_harmOf_4 fu kx σ x1 x2 x3 = some Rr → Gd b D cI cZ cO σ s.heap H locs → lv_has ls 4 [(0, .ref (b + 132)), (1, .int x1), (2, .int x2), (3, .int x3)] → W p l e rmX12_harmOf s m args below meth c H locs 0 0 (MQ below (QI b D cI cZ cO Rr) args s 0 0 (fun q => b ≤ q)) (F0 m 4 ls []) := by
  intro fu
  induction fu with
  | zero => intro σ x1 x2 x3 H locs ls hs; cases hs
  | succ fu ih =>
    intro σ x1 x2 x3 H locs ls hs G hl
    exact wX12_harmOf_4b C (fun σ x1 x2 x3 H locs ls hs G hl => ih σ x1 x2 x3 H locs ls hs G hl) hxx hs G hl
def fX12_harmOf (σ : Sg) (x1 : Int32) : Option (Int32 × Sg) :=
  fX12_harmOf_4 FU (fun σ_7 x2_7 => some (x2_7, σ_7)) σ x1 0 0
set_option maxRecDepth 100000 in
set_option maxHeartbeats 4000000 in
theorem ctX12_harmOf (l : Launch) {D : va_G} {cI cZ cO : ClassId} {b : Nat} {σ : Sg} {x1 : Int32} {Rr : (Int32 × Sg)} (hs : fX12_harmOf σ x1 = some Rr) : MI l yX12_harmOf cX12_harmOf 4 (some .int) rmX12_harmOf [.ref (b + 132), .int x1] b D cI cZ cO σ Rr := by
  unfold fX12_harmOf at hs
  refine metI (by decide +kernel) (Nat.le_of_ble_eq_true rfl) (fun p e s m below meth c ls C G hl => ?_)
  have C : Cx p s m _ meth c cX12_harmOf RX12 4 (some .int) D cI cZ cO := C
  have hx := C.1
  have hb := C.2.1
  have hl : lv_has ls 4 [(0, .ref (b + 132)), (1, .int x1)] := hl
  refine lv_iconst (v := 0) hx hb dX12_harmOf_0 (by decide) ?_
  refine lv_istore_n (lv' := [(2, .int 0), (0, .ref (b + 132)), (1, .int x1)]) hx hb dX12_harmOf_1 rfl hl (by decide) rfl (fun ls hl => ?_)
  refine lv_iconst (v := 0) hx hb dX12_harmOf_2 (by decide) ?_
  refine lv_istore_n (lv' := [(3, .int 0), (2, .int 0), (0, .ref (b + 132)), (1, .int x1)]) hx hb dX12_harmOf_3 rfl hl (by decide) rfl (fun ls hl => ?_)
  refine wX12_harmOf_4 C (fun σ_7 x2_7 H locs ls hs G hl => ?_) FU _ _ _ _ _ _ _ hs G (lv_sub hl [2, 3, 1, 0] rfl)
  refine lv_iload_n hx hb dX12_harmOf_44 rfl (lv_at hl 0 rfl) ?_
  exact retI C G hs dX12_harmOf_45
-- X12_village
def rmX12_village : Room := { frames := 3, cells := 0, slots := 0, locals := 72 }
def fX12_village (σ : Sg) (x1 : Int32) (x2 : Int32) : Option (Int32 × Sg) :=
  bi (fX12_isVillage σ x1) (fun r_1 σ_1 => (if r_1 = 0 then some ((-1000000001), σ_1) else (if x2 = 0 then (if inb (26 + x1) 60 then some ((σ_1 136 (26 + x1).toNatClampNeg), σ_1) else none) else (if x2 = 1 then bi (fX12_ofVillage σ_1 x1) (fun r_5 σ_5 => some (r_5, σ_5)) else (if x2 = 2 then bi (fX12_had σ_1 x1) (fun r_6 σ_6 => some (r_6, σ_6)) else (if x2 = 3 then bi (fX12_harmOf σ_1 x1) (fun r_7 σ_7 => some (r_7, σ_7)) else some ((-1000000002), σ_1)))))))
set_option maxRecDepth 100000 in
set_option maxHeartbeats 4000000 in
theorem ctX12_village (l : Launch) {D : va_G} {cI cZ cO : ClassId} {b : Nat} {σ : Sg} {x1 : Int32} {x2 : Int32} {Rr : (Int32 × Sg)} (hs : fX12_village σ x1 x2 = some Rr) : MI l yX12_village cX12_village 3 (some .int) rmX12_village [.ref (b + 132), .int x1, .int x2] b D cI cZ cO σ Rr := by
  unfold fX12_village at hs
  refine metI (by decide +kernel) (Nat.le_of_ble_eq_true rfl) (fun p e s m below meth c ls C G hl => ?_)
  have C : Cx p s m _ meth c cX12_village RX12 3 (some .int) D cI cZ cO := C
  have hx := C.1
  have hb := C.2.1
  have hl : lv_has ls 3 [(0, .ref (b + 132)), (1, .int x1), (2, .int x2)] := hl
  refine lv_aload_n hx hb dX12_village_0 rfl (lv_at hl 0 rfl) ?_
  refine lv_iload_n hx hb dX12_village_1 rfl (lv_at hl 1 rfl) ?_
  obtain ⟨r_1, σ_1, hc, hs⟩ := biE hs
  refine callVI (ar := 1) (As := [.int x1]) (rest := []) C G hl.1 (ctX12_isVillage _  hc) ⟨wd_1136, wd_1138, wd_54, wd_81, wd_1139⟩ (by decide +kernel) rfl ⟨rfl, rfl⟩ ⟨Nat.le_of_ble_eq_true rfl, Nat.le_of_ble_eq_true rfl⟩ (kd_lt kd_132 (by decide)) (ent_12 b cI cZ cO _ kd_132) rfl (Nat.le_of_ble_eq_true rfl) ⟨Nat.le_of_ble_eq_true rfl, Nat.le_of_ble_eq_true rfl⟩ dX12_village_2 rfl (fun H locs G => ?_)
  refine lv_if_ne (tgt := 11) hx hb dX12_village_5 (by decide) (fun c_2 => ?_) (fun c_2 => ?_)
  · replace hs := ifF c_2 hs
    refine lv_iload_n hx hb dX12_village_11 rfl (lv_at hl 2 rfl) ?_
    by_cases c_3_0 : x2 = 0
    · replace hs := ifT c_3_0 hs
      refine lv_tableIn (tgt := 44) hx hb dX12_village_12 (by rw [c_3_0]; decide) (by rw [c_3_0]; decide) (by rw [c_3_0]; rfl) (by decide) ?_
      refine lv_aload_n hx hb dX12_village_44 rfl (lv_at hl 0 rfl) ?_
      refine gf_X12_19 C G kd_132 (n' := 136) rfl dX12_village_45 ?_
      refine lv_bipush (v := 26) hx hb dX12_village_48 (by decide) ?_
      refine lv_iload_n hx hb dX12_village_50 rfl (lv_at hl 1 rfl) ?_
      refine lv_iadd hx hb dX12_village_51 ?_
      obtain ⟨g_4, hs⟩ := gdE hs
      refine m_iald C G kd_136 ln_136 g_4 dX12_village_52 ?_
      exact retI C G hs dX12_village_53
    · replace hs := ifF c_3_0 hs
      by_cases c_3_1 : x2 = 1
      · replace hs := ifT c_3_1 hs
        refine lv_tableIn (tgt := 54) hx hb dX12_village_12 (by rw [c_3_1]; decide) (by rw [c_3_1]; decide) (by rw [c_3_1]; rfl) (by decide) ?_
        refine lv_aload_n hx hb dX12_village_54 rfl (lv_at hl 0 rfl) ?_
        refine lv_iload_n hx hb dX12_village_55 rfl (lv_at hl 1 rfl) ?_
        obtain ⟨r_5, σ_5, hc, hs⟩ := biE hs
        refine callVI (ar := 1) (As := [.int x1]) (rest := []) C G hl.1 (ctX12_ofVillage _  hc) ⟨wd_1061, wd_1063, wd_39, wd_81, wd_1064⟩ (by decide +kernel) rfl ⟨rfl, rfl⟩ ⟨Nat.le_of_ble_eq_true rfl, Nat.le_of_ble_eq_true rfl⟩ (kd_lt kd_132 (by decide)) (ent_12 b cI cZ cO _ kd_132) rfl (Nat.le_of_ble_eq_true rfl) ⟨Nat.le_of_ble_eq_true rfl, Nat.le_of_ble_eq_true rfl⟩ dX12_village_56 rfl (fun H locs G => ?_)
        exact retI C G hs dX12_village_59
      · replace hs := ifF c_3_1 hs
        by_cases c_3_2 : x2 = 2
        · replace hs := ifT c_3_2 hs
          refine lv_tableIn (tgt := 60) hx hb dX12_village_12 (by rw [c_3_2]; decide) (by rw [c_3_2]; decide) (by rw [c_3_2]; rfl) (by decide) ?_
          refine lv_aload_n hx hb dX12_village_60 rfl (lv_at hl 0 rfl) ?_
          refine lv_iload_n hx hb dX12_village_61 rfl (lv_at hl 1 rfl) ?_
          obtain ⟨r_6, σ_6, hc, hs⟩ := biE hs
          refine callVI (ar := 1) (As := [.int x1]) (rest := []) C G hl.1 (ctX12_had _  hc) ⟨wd_1140, wd_1142, wd_55, wd_81, wd_1143⟩ (by decide +kernel) rfl ⟨rfl, rfl⟩ ⟨Nat.le_of_ble_eq_true rfl, Nat.le_of_ble_eq_true rfl⟩ (kd_lt kd_132 (by decide)) (ent_12 b cI cZ cO _ kd_132) rfl (Nat.le_of_ble_eq_true rfl) ⟨Nat.le_of_ble_eq_true rfl, Nat.le_of_ble_eq_true rfl⟩ dX12_village_62 rfl (fun H locs G => ?_)
          exact retI C G hs dX12_village_65
        · replace hs := ifF c_3_2 hs
          by_cases c_3_3 : x2 = 3
          · replace hs := ifT c_3_3 hs
            refine lv_tableIn (tgt := 66) hx hb dX12_village_12 (by rw [c_3_3]; decide) (by rw [c_3_3]; decide) (by rw [c_3_3]; rfl) (by decide) ?_
            refine lv_aload_n hx hb dX12_village_66 rfl (lv_at hl 0 rfl) ?_
            refine lv_iload_n hx hb dX12_village_67 rfl (lv_at hl 1 rfl) ?_
            obtain ⟨r_7, σ_7, hc, hs⟩ := biE hs
            refine callVI (ar := 1) (As := [.int x1]) (rest := []) C G hl.1 (ctX12_harmOf _  hc) ⟨wd_1144, wd_1146, wd_56, wd_81, wd_1147⟩ (by decide +kernel) rfl ⟨rfl, rfl⟩ ⟨Nat.le_of_ble_eq_true rfl, Nat.le_of_ble_eq_true rfl⟩ (kd_lt kd_132 (by decide)) (ent_12 b cI cZ cO _ kd_132) rfl (Nat.le_of_ble_eq_true rfl) ⟨Nat.le_of_ble_eq_true rfl, Nat.le_of_ble_eq_true rfl⟩ dX12_village_68 rfl (fun H locs G => ?_)
            exact retI C G hs dX12_village_71
          · replace hs := ifF c_3_3 hs
            refine lv_tableOut (tgt := 72) hx hb dX12_village_12 (by have t0 := tbl_ne c_3_0 (z := 0) (by decide); have t1 := tbl_ne c_3_1 (z := 1) (by decide); have t2 := tbl_ne c_3_2 (z := 2) (by decide); have t3 := tbl_ne c_3_3 (z := 3) (by decide); omega) (by decide) ?_
            refine m_ldc C wd_991 dX12_village_72 ?_
            exact retI C G hs dX12_village_74
  · replace hs := ifT c_2 hs
    refine m_ldc C wd_1111 dX12_village_8 ?_
    exact retI C G hs dX12_village_10
-- X12_remember
def rmX12_remember : Room := { frames := 0, cells := 0, slots := 0, locals := 0 }
def fX12_remember_52b (kh : Sg → Int32 → Option Sg) (kx : Sg → Option Sg) (σ : Sg) (x1 : Int32) : Option Sg :=
  (if 30 ≤ x1 then kx σ else (if inb x1 60 then (if inb ((30 * (σ 132 25)) + x1) 480 then lt (st σ 143 ((30 * (σ 132 25)) + x1).toNatClampNeg (σ 136 x1.toNatClampNeg)) (fun σ_4 => lt (x1 + 1) (fun x1_5 => kh σ_4 x1_5)) else none) else none))
set_option maxRecDepth 100000 in
set_option maxHeartbeats 4000000 in
theorem wX12_remember_52b {p : Program} {l : Launch} {e : Env} {s : State} {m : MethodId} {args : Array Value} {below : List Frame} {meth : Method} {c : Code} {D : va_G} {cI cZ cO : ClassId} {b : Nat} (C : Cx p s m args meth c cX12_remember RX12 2 none D cI cZ cO) {Rr : Sg} {kh : Sg → Int32 → Option Sg} {kx : Sg → Option Sg} (hh : ∀ (σ : Sg) (x1 : Int32) (H : Heap) (locs : List Loc) (ls : Array Slot), kh σ x1 = some Rr → Gd b D cI cZ cO σ s.heap H locs → lv_has ls 2 [(0, .ref (b + 132)), (1, .int x1)] → W p l e rmX12_remember s m args below meth c H locs 0 0 (MQ below (QV b D cI cZ cO Rr) args s 0 0 (fun q => b ≤ q)) (F0 m 52 ls [])) (hxx : ∀ (σ : Sg) (H : Heap) (locs : List Loc) (ls : Array Slot), kx σ = some Rr → Gd b D cI cZ cO σ s.heap H locs → lv_has ls 2 [(0, .ref (b + 132))] → W p l e rmX12_remember s m args below meth c H locs 0 0 (MQ below (QV b D cI cZ cO Rr) args s 0 0 (fun q => b ≤ q)) (F0 m 84 ls [])) {σ : Sg} {x1 : Int32} {H : Heap} {locs : List Loc} {ls : Array Slot} (hs : fX12_remember_52b kh kx σ x1 = some Rr) (G : Gd b D cI cZ cO σ s.heap H locs) (hl : lv_has ls 2 [(0, .ref (b + 132)), (1, .int x1)]) : W p l e rmX12_remember s m args below meth c H locs 0 0 (MQ below (QV b D cI cZ cO Rr) args s 0 0 (fun q => b ≤ q)) (F0 m 52 ls []) := by
  have hx := C.1
  have hb := C.2.1
  unfold fX12_remember_52b at hs
  refine lv_iload_n hx hb dX12_remember_52 rfl (lv_at hl 1 rfl) ?_
  refine lv_bipush (v := 30) hx hb dX12_remember_53 (by decide) ?_
  refine lv_icmp_ge (tgt := 84) hx hb dX12_remember_55 (by decide) (fun c_2 => ?_) (fun c_2 => ?_)
  · replace hs := ifT c_2 hs
    exact hxx _ _ _ _ hs G (lv_sub hl [0] rfl)
  · replace hs := ifF c_2 hs
    refine lv_aload_n hx hb dX12_remember_58 rfl (lv_at hl 0 rfl) ?_
    refine gf_X12_44 C G kd_132 (n' := 143) rfl dX12_remember_59 ?_
    refine lv_bipush (v := 30) hx hb dX12_remember_62 (by decide) ?_
    refine lv_aload_n hx hb dX12_remember_64 rfl (lv_at hl 0 rfl) ?_
    refine gf_X12_150 C G kd_132 dX12_remember_65 ?_
    refine lv_imul hx hb dX12_remember_68 ?_
    refine lv_iload_n hx hb dX12_remember_69 rfl (lv_at hl 1 rfl) ?_
    refine lv_iadd hx hb dX12_remember_70 ?_
    refine lv_aload_n hx hb dX12_remember_71 rfl (lv_at hl 0 rfl) ?_
    refine gf_X12_19 C G kd_132 (n' := 136) rfl dX12_remember_72 ?_
    refine lv_iload_n hx hb dX12_remember_75 rfl (lv_at hl 1 rfl) ?_
    obtain ⟨g_3, hs⟩ := gdE hs
    refine m_iald C G kd_136 ln_136 g_3 dX12_remember_76 ?_
    obtain ⟨g_4, hs⟩ := gdE hs
    refine m_iast C G kd_143 ln_143 g_4 hs dX12_remember_77 (fun σ_4 H locs hs G => ?_)
    obtain ⟨x1_5, e_5, hs⟩ := ltE hs
    refine lv_iinc (v := x1_5) (lv' := [(1, .int x1_5), (0, .ref (b + 132))]) hx hb dX12_remember_78 hl (k := 1) rfl (by rw [e_5]; rfl) (by decide) rfl (fun ls hl => ?_)
    refine lv_goto (tgt := 52) hx hb dX12_remember_81 (by decide) ?_
    exact hh _ _ _ _ _ hs G (lv_sub hl [1, 0] rfl)
def fX12_remember_52 : Nat → (Sg → Option Sg) → Sg → Int32 → Option Sg
  | 0, _, _, _ => none
  | fu + 1, kx, σ, x1 => fX12_remember_52b (fX12_remember_52 fu kx) kx σ x1
theorem fX12_remember_52_s (fu : Nat) (kx : Sg → Option Sg) (σ : Sg) (x1 : Int32) : fX12_remember_52 (fu + 1) kx σ x1 = fX12_remember_52b (fX12_remember_52 fu kx) kx σ x1 := by rw [fX12_remember_52]
theorem wX12_remember_52 {p : Program} {l : Launch} {e : Env} {s : State} {m : MethodId} {args : Array Value} {below : List Frame} {meth : Method} {c : Code} {D : va_G} {cI cZ cO : ClassId} {b : Nat} (C : Cx p s m args meth c cX12_remember RX12 2 none D cI cZ cO) {Rr : Sg} {kx : Sg → Option Sg} (hxx : ∀ (σ : Sg) (H : Heap) (locs : List Loc) (ls : Array Slot), kx σ = some Rr → Gd b D cI cZ cO σ s.heap H locs → lv_has ls 2 [(0, .ref (b + 132))] → W p l e rmX12_remember s m args below meth c H locs 0 0 (MQ below (QV b D cI cZ cO Rr) args s 0 0 (fun q => b ≤ q)) (F0 m 84 ls [])) : ∀ (fu : Nat) (σ : Sg) (x1 : Int32) (H : Heap) (locs : List Loc) (ls : Array Slot), fX12_remember_52 fu kx σ x1 = some Rr → Gd b D cI cZ cO σ s.heap H locs → lv_has ls 2 [(0, .ref (b + 132)), (1, .int x1)] → W p l e rmX12_remember s m args below meth c H locs 0 0 (MQ below (QV b D cI cZ cO Rr) args s 0 0 (fun q => b ≤ q)) (F0 m 52 ls []) := by
  intro fu
  induction fu with
  | zero => intro σ x1 H locs ls hs; cases hs
  | succ fu ih =>
    intro σ x1 H locs ls hs G hl
    exact wX12_remember_52b C (fun σ x1 H locs ls hs G hl => ih σ x1 H locs ls hs G hl) hxx hs G hl
def fX12_remember_50 (σ : Sg) : Option Sg :=
  fX12_remember_52 FU (fun σ_6 => lt (st σ_6 132 25 ((σ_6 132 25) + 1)) (fun σ_7 => some σ_7)) σ 0
set_option maxRecDepth 100000 in
set_option maxHeartbeats 4000000 in
theorem wX12_remember_50 {p : Program} {l : Launch} {e : Env} {s : State} {m : MethodId} {args : Array Value} {below : List Frame} {meth : Method} {c : Code} {D : va_G} {cI cZ cO : ClassId} {b : Nat} (C : Cx p s m args meth c cX12_remember RX12 2 none D cI cZ cO) {Rr : Sg} {σ : Sg} {H : Heap} {locs : List Loc} {ls : Array Slot} (hs : fX12_remember_50 σ = some Rr) (G : Gd b D cI cZ cO σ s.heap H locs) (hl : lv_has ls 2 [(0, .ref (b + 132))]) : W p l e rmX12_remember s m args below meth c H locs 0 0 (MQ below (QV b D cI cZ cO Rr) args s 0 0 (fun q => b ≤ q)) (F0 m 50 ls []) := by
  have hx := C.1
  have hb := C.2.1
  unfold fX12_remember_50 at hs
  refine lv_iconst (v := 0) hx hb dX12_remember_50 (by decide) ?_
  refine lv_istore_n (lv' := [(1, .int 0), (0, .ref (b + 132))]) hx hb dX12_remember_51 rfl hl (by decide) rfl (fun ls hl => ?_)
  refine wX12_remember_52 C (fun σ_6 H locs ls hs G hl => ?_) FU _ _ _ _ _ hs G (lv_sub hl [1, 0] rfl)
  refine lv_aload_n hx hb dX12_remember_84 rfl (lv_at hl 0 rfl) ?_
  refine lv_dup hx hb dX12_remember_85 rfl ?_
  refine gf_X12_150 C G kd_132 dX12_remember_86 ?_
  refine lv_iconst (v := 1) hx hb dX12_remember_89 (by decide) ?_
  refine lv_iadd hx hb dX12_remember_90 ?_
  refine pf_X12_150 C G kd_132 hs dX12_remember_91 (fun σ_7 H locs hs G => ?_)
  exact retV C G hs dX12_remember_94
def fX12_remember_12b (kh : Sg → Int32 → Option Sg) (kx : Sg → Option Sg) (σ : Sg) (x1 : Int32) : Option Sg :=
  (if 480 ≤ x1 then kx σ else (if inb x1 480 then (if inb (x1 - 30) 480 then lt (st σ 143 (x1 - 30).toNatClampNeg (σ 143 x1.toNatClampNeg)) (fun σ_10 => lt (x1 + 1) (fun x1_11 => kh σ_10 x1_11)) else none) else none))
set_option maxRecDepth 100000 in
set_option maxHeartbeats 4000000 in
theorem wX12_remember_12b {p : Program} {l : Launch} {e : Env} {s : State} {m : MethodId} {args : Array Value} {below : List Frame} {meth : Method} {c : Code} {D : va_G} {cI cZ cO : ClassId} {b : Nat} (C : Cx p s m args meth c cX12_remember RX12 2 none D cI cZ cO) {Rr : Sg} {kh : Sg → Int32 → Option Sg} {kx : Sg → Option Sg} (hh : ∀ (σ : Sg) (x1 : Int32) (H : Heap) (locs : List Loc) (ls : Array Slot), kh σ x1 = some Rr → Gd b D cI cZ cO σ s.heap H locs → lv_has ls 2 [(0, .ref (b + 132)), (1, .int x1)] → W p l e rmX12_remember s m args below meth c H locs 0 0 (MQ below (QV b D cI cZ cO Rr) args s 0 0 (fun q => b ≤ q)) (F0 m 12 ls [])) (hxx : ∀ (σ : Sg) (H : Heap) (locs : List Loc) (ls : Array Slot), kx σ = some Rr → Gd b D cI cZ cO σ s.heap H locs → lv_has ls 2 [(0, .ref (b + 132))] → W p l e rmX12_remember s m args below meth c H locs 0 0 (MQ below (QV b D cI cZ cO Rr) args s 0 0 (fun q => b ≤ q)) (F0 m 40 ls [])) {σ : Sg} {x1 : Int32} {H : Heap} {locs : List Loc} {ls : Array Slot} (hs : fX12_remember_12b kh kx σ x1 = some Rr) (G : Gd b D cI cZ cO σ s.heap H locs) (hl : lv_has ls 2 [(0, .ref (b + 132)), (1, .int x1)]) : W p l e rmX12_remember s m args below meth c H locs 0 0 (MQ below (QV b D cI cZ cO Rr) args s 0 0 (fun q => b ≤ q)) (F0 m 12 ls []) := by
  have hx := C.1
  have hb := C.2.1
  unfold fX12_remember_12b at hs
  refine lv_iload_n hx hb dX12_remember_12 rfl (lv_at hl 1 rfl) ?_
  refine lv_sipush (v := 480) hx hb dX12_remember_13 (by decide) ?_
  refine lv_icmp_ge (tgt := 40) hx hb dX12_remember_16 (by decide) (fun c_8 => ?_) (fun c_8 => ?_)
  · replace hs := ifT c_8 hs
    exact hxx _ _ _ _ hs G (lv_sub hl [0] rfl)
  · replace hs := ifF c_8 hs
    refine lv_aload_n hx hb dX12_remember_19 rfl (lv_at hl 0 rfl) ?_
    refine gf_X12_44 C G kd_132 (n' := 143) rfl dX12_remember_20 ?_
    refine lv_iload_n hx hb dX12_remember_23 rfl (lv_at hl 1 rfl) ?_
    refine lv_bipush (v := 30) hx hb dX12_remember_24 (by decide) ?_
    refine lv_isub hx hb dX12_remember_26 ?_
    refine lv_aload_n hx hb dX12_remember_27 rfl (lv_at hl 0 rfl) ?_
    refine gf_X12_44 C G kd_132 (n' := 143) rfl dX12_remember_28 ?_
    refine lv_iload_n hx hb dX12_remember_31 rfl (lv_at hl 1 rfl) ?_
    obtain ⟨g_9, hs⟩ := gdE hs
    refine m_iald C G kd_143 ln_143 g_9 dX12_remember_32 ?_
    obtain ⟨g_10, hs⟩ := gdE hs
    refine m_iast C G kd_143 ln_143 g_10 hs dX12_remember_33 (fun σ_10 H locs hs G => ?_)
    obtain ⟨x1_11, e_11, hs⟩ := ltE hs
    refine lv_iinc (v := x1_11) (lv' := [(1, .int x1_11), (0, .ref (b + 132))]) hx hb dX12_remember_34 hl (k := 1) rfl (by rw [e_11]; rfl) (by decide) rfl (fun ls hl => ?_)
    refine lv_goto (tgt := 12) hx hb dX12_remember_37 (by decide) ?_
    exact hh _ _ _ _ _ hs G (lv_sub hl [1, 0] rfl)
def fX12_remember_12 : Nat → (Sg → Option Sg) → Sg → Int32 → Option Sg
  | 0, _, _, _ => none
  | fu + 1, kx, σ, x1 => fX12_remember_12b (fX12_remember_12 fu kx) kx σ x1
theorem fX12_remember_12_s (fu : Nat) (kx : Sg → Option Sg) (σ : Sg) (x1 : Int32) : fX12_remember_12 (fu + 1) kx σ x1 = fX12_remember_12b (fX12_remember_12 fu kx) kx σ x1 := by rw [fX12_remember_12]
theorem wX12_remember_12 {p : Program} {l : Launch} {e : Env} {s : State} {m : MethodId} {args : Array Value} {below : List Frame} {meth : Method} {c : Code} {D : va_G} {cI cZ cO : ClassId} {b : Nat} (C : Cx p s m args meth c cX12_remember RX12 2 none D cI cZ cO) {Rr : Sg} {kx : Sg → Option Sg} (hxx : ∀ (σ : Sg) (H : Heap) (locs : List Loc) (ls : Array Slot), kx σ = some Rr → Gd b D cI cZ cO σ s.heap H locs → lv_has ls 2 [(0, .ref (b + 132))] → W p l e rmX12_remember s m args below meth c H locs 0 0 (MQ below (QV b D cI cZ cO Rr) args s 0 0 (fun q => b ≤ q)) (F0 m 40 ls [])) : ∀ (fu : Nat) (σ : Sg) (x1 : Int32) (H : Heap) (locs : List Loc) (ls : Array Slot), fX12_remember_12 fu kx σ x1 = some Rr → Gd b D cI cZ cO σ s.heap H locs → lv_has ls 2 [(0, .ref (b + 132)), (1, .int x1)] → W p l e rmX12_remember s m args below meth c H locs 0 0 (MQ below (QV b D cI cZ cO Rr) args s 0 0 (fun q => b ≤ q)) (F0 m 12 ls []) := by
  intro fu
  induction fu with
  | zero => intro σ x1 H locs ls hs; cases hs
  | succ fu ih =>
    intro σ x1 H locs ls hs G hl
    exact wX12_remember_12b C (fun σ x1 H locs ls hs G hl => ih σ x1 H locs ls hs G hl) hxx hs G hl
def fX12_remember (σ : Sg) : Option Sg :=
  (if (σ 132 25) = 16 then fX12_remember_12 FU (fun σ_12 => lt (st σ_12 132 25 ((σ_12 132 25) - 1)) (fun σ_13 => fX12_remember_50 σ_13)) σ 30 else fX12_remember_50 σ)
set_option maxRecDepth 100000 in
set_option maxHeartbeats 4000000 in
theorem ctX12_remember (l : Launch) {D : va_G} {cI cZ cO : ClassId} {b : Nat} {σ : Sg} {Rr : Sg} (hs : fX12_remember σ = some Rr) : MV l yX12_remember cX12_remember 2 rmX12_remember [.ref (b + 132)] b D cI cZ cO σ Rr := by
  unfold fX12_remember at hs
  refine metV (by decide +kernel) (Nat.le_of_ble_eq_true rfl) (fun p e s m below meth c ls C G hl => ?_)
  have C : Cx p s m _ meth c cX12_remember RX12 2 none D cI cZ cO := C
  have hx := C.1
  have hb := C.2.1
  have hl : lv_has ls 2 [(0, .ref (b + 132))] := hl
  refine lv_aload_n hx hb dX12_remember_0 rfl (lv_at hl 0 rfl) ?_
  refine gf_X12_150 C G kd_132 dX12_remember_1 ?_
  refine lv_bipush (v := 16) hx hb dX12_remember_4 (by decide) ?_
  refine lv_icmp_ne (tgt := 50) hx hb dX12_remember_6 (by decide) (fun c_1 => ?_) (fun c_1 => ?_)
  · replace hs := ifF c_1 hs
    exact wX12_remember_50 C   hs G (lv_sub hl [0] rfl)
  · replace hs := ifT c_1 hs
    refine lv_bipush (v := 30) hx hb dX12_remember_9 (by decide) ?_
    refine lv_istore_n (lv' := [(1, .int 30), (0, .ref (b + 132))]) hx hb dX12_remember_11 rfl hl (by decide) rfl (fun ls hl => ?_)
    refine wX12_remember_12 C (fun σ_12 H locs ls hs G hl => ?_) FU _ _ _ _ _ hs G (lv_sub hl [1, 0] rfl)
    refine lv_aload_n hx hb dX12_remember_40 rfl (lv_at hl 0 rfl) ?_
    refine lv_dup hx hb dX12_remember_41 rfl ?_
    refine gf_X12_150 C G kd_132 dX12_remember_42 ?_
    refine lv_iconst (v := 1) hx hb dX12_remember_45 (by decide) ?_
    refine lv_isub hx hb dX12_remember_46 ?_
    refine pf_X12_150 C G kd_132 hs dX12_remember_47 (fun σ_13 H locs hs G => ?_)
    exact wX12_remember_50 C   hs G (lv_sub hl [0] rfl)
-- X12_tells
def rmX12_tells : Room := { frames := 0, cells := 0, slots := 0, locals := 0 }
def fX12_tells (σ : Sg) (x1 : Int32) (x2 : Int32) : Option (Int32 × Sg) :=
  (if inb (12 + x1) 60 then lt (σ 136 (12 + x1).toNatClampNeg) (fun x3_2 => (if inb (12 + x1) 60 then lt (st σ 136 (12 + x1).toNatClampNeg x2) (fun σ_3 => (if inb 4 60 then (if inb 4 60 then lt (st σ_3 136 (4 : Int32).toNatClampNeg ((σ_3 136 (4 : Int32).toNatClampNeg) ||| ((1 : Int32) <<< (x1 &&& 31)))) (fun σ_5 => some (x3_2, σ_5)) else none) else none)) else none)) else none)
set_option maxRecDepth 100000 in
set_option maxHeartbeats 4000000 in
theorem ctX12_tells (l : Launch) {D : va_G} {cI cZ cO : ClassId} {b : Nat} {σ : Sg} {x1 : Int32} {x2 : Int32} {Rr : (Int32 × Sg)} (hs : fX12_tells σ x1 x2 = some Rr) : MI l yX12_tells cX12_tells 4 (some .int) rmX12_tells [.ref (b + 132), .int x1, .int x2] b D cI cZ cO σ Rr := by
  unfold fX12_tells at hs
  refine metI (by decide +kernel) (Nat.le_of_ble_eq_true rfl) (fun p e s m below meth c ls C G hl => ?_)
  have C : Cx p s m _ meth c cX12_tells RX12 4 (some .int) D cI cZ cO := C
  have hx := C.1
  have hb := C.2.1
  have hl : lv_has ls 4 [(0, .ref (b + 132)), (1, .int x1), (2, .int x2)] := hl
  refine lv_aload_n hx hb dX12_tells_0 rfl (lv_at hl 0 rfl) ?_
  refine gf_X12_19 C G kd_132 (n' := 136) rfl dX12_tells_1 ?_
  refine lv_bipush (v := 12) hx hb dX12_tells_4 (by decide) ?_
  refine lv_iload_n hx hb dX12_tells_6 rfl (lv_at hl 1 rfl) ?_
  refine lv_iadd hx hb dX12_tells_7 ?_
  obtain ⟨g_1, hs⟩ := gdE hs
  refine m_iald C G kd_136 ln_136 g_1 dX12_tells_8 ?_
  refine topI hs (fun x3_2 hs => ?_)
  refine lv_istore_n (lv' := [(3, .int x3_2), (0, .ref (b + 132)), (1, .int x1), (2, .int x2)]) hx hb dX12_tells_9 rfl hl (by decide) rfl (fun ls hl => ?_)
  refine lv_aload_n hx hb dX12_tells_10 rfl (lv_at hl 1 rfl) ?_
  refine gf_X12_19 C G kd_132 (n' := 136) rfl dX12_tells_11 ?_
  refine lv_bipush (v := 12) hx hb dX12_tells_14 (by decide) ?_
  refine lv_iload_n hx hb dX12_tells_16 rfl (lv_at hl 2 rfl) ?_
  refine lv_iadd hx hb dX12_tells_17 ?_
  refine lv_iload_n hx hb dX12_tells_18 rfl (lv_at hl 3 rfl) ?_
  obtain ⟨g_3, hs⟩ := gdE hs
  refine m_iast C G kd_136 ln_136 g_3 hs dX12_tells_19 (fun σ_3 H locs hs G => ?_)
  refine lv_aload_n hx hb dX12_tells_20 rfl (lv_at hl 1 rfl) ?_
  refine gf_X12_19 C G kd_132 (n' := 136) rfl dX12_tells_21 ?_
  refine lv_iconst (v := 4) hx hb dX12_tells_24 (by decide) ?_
  refine lv_dup2_11 hx hb dX12_tells_25 rfl rfl ?_
  obtain ⟨g_4, hs⟩ := gdE hs
  refine m_iald C G kd_136 ln_136 g_4 dX12_tells_26 ?_
  refine lv_iconst (v := 1) hx hb dX12_tells_27 (by decide) ?_
  refine lv_iload_n hx hb dX12_tells_28 rfl (lv_at hl 2 rfl) ?_
  refine lv_ishl hx hb dX12_tells_29 ?_
  refine lv_ior hx hb dX12_tells_30 ?_
  obtain ⟨g_5, hs⟩ := gdE hs
  refine m_iast C G kd_136 ln_136 g_5 hs dX12_tells_31 (fun σ_5 H locs hs G => ?_)
  refine lv_iload_n hx hb dX12_tells_32 rfl (lv_at hl 0 rfl) ?_
  exact retI C G hs dX12_tells_33
