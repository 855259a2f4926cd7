-- X12_worst
def rmX12_worst : Room := { frames := 0, cells := 0, slots := 0, locals := 0 }
def fX12_worst_59 (kh : Sg → Int32 → Int32 → Int32 → Option (Int32 × Sg)) (kx : Sg → Int32 → Option (Int32 × Sg)) (σ : Sg) (x1 : Int32) (x3 : Int32) (y0 : Int32) : Option (Int32 × Sg) :=
  lt (x3 + 1) (fun x3_8 => kh σ x1 y0 x3_8)
set_option maxRecDepth 100000 in
set_option maxHeartbeats 4000000 in
theorem wX12_worst_59 {p : Program} {l : Launch} {e : Env} {s : State} {m : MethodId} {args : Array Value} {below : List Frame} {meth : Method} {c : Code} {D : va_G} {cI cZ cO : ClassId} {b : Nat} (C : Cx p s m args meth c cX12_worst RX12 4 (some .int) D cI cZ cO) {Rr : (Int32 × Sg)} {kh : Sg → Int32 → Int32 → Int32 → Option (Int32 × Sg)} {kx : Sg → Int32 → Option (Int32 × Sg)} (hh : ∀ (σ : Sg) (x1 : Int32) (x2 : Int32) (x3 : Int32) (H : Heap) (locs : List Loc) (ls : Array Slot), kh σ x1 x2 x3 = some Rr → Gd b D cI cZ cO σ s.heap H locs → lv_has ls 4 [(0, .ref (b + 132)), (1, .int x1), (2, .int x2), (3, .int x3)] → W p l e rmX12_worst s m args below meth c H locs 0 0 (MQ below (QI b D cI cZ cO Rr) args s 0 0 (fun q => b ≤ q)) (F0 m 6 ls [])) (hxx : ∀ (σ : Sg) (x1 : Int32) (H : Heap) (locs : List Loc) (ls : Array Slot), kx σ x1 = some Rr → Gd b D cI cZ cO σ s.heap H locs → lv_has ls 4 [(1, .int x1)] → W p l e rmX12_worst s m args below meth c H locs 0 0 (MQ below (QI b D cI cZ cO Rr) args s 0 0 (fun q => b ≤ q)) (F0 m 66 ls [])) {σ : Sg} {x1 : Int32} {x3 : Int32} {y0 : Int32} {H : Heap} {locs : List Loc} {ls : Array Slot} (hs : fX12_worst_59 kh kx σ x1 x3 y0 = some Rr) (G : Gd b D cI cZ cO σ s.heap H locs) (hl : lv_has ls 4 [(0, .ref (b + 132)), (1, .int x1), (3, .int x3)]) : W p l e rmX12_worst s m args below meth c H locs 0 0 (MQ below (QI b D cI cZ cO Rr) args s 0 0 (fun q => b ≤ q)) (F0 m 59 ls [.int y0]) := by
  have hx := C.1
  have hb := C.2.1
  unfold fX12_worst_59 at hs
  refine lv_istore_n (lv' := [(2, .int y0), (0, .ref (b + 132)), (1, .int x1), (3, .int x3)]) hx hb dX12_worst_59 rfl hl (by decide) rfl (fun ls hl => ?_)
  obtain ⟨x3_8, e_8, hs⟩ := ltE hs
  refine lv_iinc (v := x3_8) (lv' := [(3, .int x3_8), (2, .int y0), (0, .ref (b + 132)), (1, .int x1)]) hx hb dX12_worst_60 hl (k := 3) rfl (by rw [e_8]; rfl) (by decide) rfl (fun ls hl => ?_)
  refine lv_goto (tgt := 6) hx hb dX12_worst_63 (by decide) ?_
  exact hh _ _ _ _ _ _ _ hs G (lv_sub hl [2, 3, 1, 0] rfl)
def fX12_worst_32 (kh : Sg → Int32 → Int32 → Int32 → Option (Int32 × Sg)) (kx : Sg → Int32 → Option (Int32 × Sg)) (σ : Sg) (x2 : Int32) (x3 : Int32) (y0 : Int32) : Option (Int32 × Sg) :=
  (if inb (19 + x3) 60 then (if (σ 136 (19 + x3).toNatClampNeg) ≤ x2 then fX12_worst_59 kh kx σ y0 x3 x2 else (if inb (19 + x3) 60 then fX12_worst_59 kh kx σ y0 x3 (σ 136 (19 + x3).toNatClampNeg) else none)) else none)
set_option maxRecDepth 100000 in
set_option maxHeartbeats 4000000 in
theorem wX12_worst_32 {p : Program} {l : Launch} {e : Env} {s : State} {m : MethodId} {args : Array Value} {below : List Frame} {meth : Method} {c : Code} {D : va_G} {cI cZ cO : ClassId} {b : Nat} (C : Cx p s m args meth c cX12_worst RX12 4 (some .int) D cI cZ cO) {Rr : (Int32 × Sg)} {kh : Sg → Int32 → Int32 → Int32 → Option (Int32 × Sg)} {kx : Sg → Int32 → Option (Int32 × Sg)} (hh : ∀ (σ : Sg) (x1 : Int32) (x2 : Int32) (x3 : Int32) (H : Heap) (locs : List Loc) (ls : Array Slot), kh σ x1 x2 x3 = some Rr → Gd b D cI cZ cO σ s.heap H locs → lv_has ls 4 [(0, .ref (b + 132)), (1, .int x1), (2, .int x2), (3, .int x3)] → W p l e rmX12_worst s m args below meth c H locs 0 0 (MQ below (QI b D cI cZ cO Rr) args s 0 0 (fun q => b ≤ q)) (F0 m 6 ls [])) (hxx : ∀ (σ : Sg) (x1 : Int32) (H : Heap) (locs : List Loc) (ls : Array Slot), kx σ x1 = some Rr → Gd b D cI cZ cO σ s.heap H locs → lv_has ls 4 [(1, .int x1)] → W p l e rmX12_worst s m args below meth c H locs 0 0 (MQ below (QI b D cI cZ cO Rr) args s 0 0 (fun q => b ≤ q)) (F0 m 66 ls [])) {σ : Sg} {x2 : Int32} {x3 : Int32} {y0 : Int32} {H : Heap} {locs : List Loc} {ls : Array Slot} (hs : fX12_worst_32 kh kx σ x2 x3 y0 = some Rr) (G : Gd b D cI cZ cO σ s.heap H locs) (hl : lv_has ls 4 [(0, .ref (b + 132)), (2, .int x2), (3, .int x3)]) : W p l e rmX12_worst s m args below meth c H locs 0 0 (MQ below (QI b D cI cZ cO Rr) args s 0 0 (fun q => b ≤ q)) (F0 m 32 ls [.int y0]) := by
  have hx := C.1
  have hb := C.2.1
  unfold fX12_worst_32 at hs
  refine lv_istore_n (lv' := [(1, .int y0), (0, .ref (b + 132)), (2, .int x2), (3, .int x3)]) hx hb dX12_worst_32 rfl hl (by decide) rfl (fun ls hl => ?_)
  refine lv_aload_n hx hb dX12_worst_33 rfl (lv_at hl 1 rfl) ?_
  refine gf_X12_19 C G kd_132 (n' := 136) rfl dX12_worst_34 ?_
  refine lv_bipush (v := 19) hx hb dX12_worst_37 (by decide) ?_
  refine lv_iload_n hx hb dX12_worst_39 rfl (lv_at hl 3 rfl) ?_
  refine lv_iadd hx hb dX12_worst_40 ?_
  obtain ⟨g_6, hs⟩ := gdE hs
  refine m_iald C G kd_136 ln_136 g_6 dX12_worst_41 ?_
  refine lv_iload_n hx hb dX12_worst_42 rfl (lv_at hl 2 rfl) ?_
  refine lv_icmp_le (tgt := 58) hx hb dX12_worst_43 (by decide) (fun c_7 => ?_) (fun c_7 => ?_)
  · replace hs := ifT c_7 hs
    refine lv_iload_n hx hb dX12_worst_58 rfl (lv_at hl 2 rfl) ?_
    exact wX12_worst_59 C  hh hxx hs G (lv_sub hl [1, 0, 3] rfl)
  · replace hs := ifF c_7 hs
    refine lv_aload_n hx hb dX12_worst_46 rfl (lv_at hl 1 rfl) ?_
    refine gf_X12_19 C G kd_132 (n' := 136) rfl dX12_worst_47 ?_
    refine lv_bipush (v := 19) hx hb dX12_worst_50 (by decide) ?_
    refine lv_iload_n hx hb dX12_worst_52 rfl (lv_at hl 3 rfl) ?_
    refine lv_iadd hx hb dX12_worst_53 ?_
    obtain ⟨g_9, hs⟩ := gdE hs
    refine m_iald C G kd_136 ln_136 g_9 dX12_worst_54 ?_
    refine lv_goto (tgt := 59) hx hb dX12_worst_55 (by decide) ?_
    exact wX12_worst_59 C  hh hxx hs G (lv_sub hl [1, 0, 3] rfl)
def fX12_worst_6b (kh : Sg → Int32 → Int32 → Int32 → Option (Int32 × Sg)) (kx : Sg → Int32 → Option (Int32 × Sg)) (σ : Sg) (x1 : Int32) (x2 : Int32) (x3 : Int32) : Option (Int32 × Sg) :=
  (if (σ 132 3) ≤ x3 then kx σ x1 else (if inb (19 + x3) 60 then (if (σ 136 (19 + x3).toNatClampNeg) ≤ x2 then fX12_worst_32 kh kx σ x2 x3 x1 else fX12_worst_32 kh kx σ x2 x3 x3) else none))
set_option maxRecDepth 100000 in
set_option maxHeartbeats 4000000 in
theorem wX12_worst_6b {p : Program} {l : Launch} {e : Env} {s : State} {m : MethodId} {args : Array Value} {below : List Frame} {meth : Method} {c : Code} {D : va_G} {cI cZ cO : ClassId} {b : Nat} (C : Cx p s m args meth c cX12_worst RX12 4 (some .int) D cI cZ cO) {Rr : (Int32 × Sg)} {kh : Sg → Int32 → Int32 → Int32 → Option (Int32 × Sg)} {kx : Sg → Int32 → Option (Int32 × Sg)} (hh : ∀ (σ : Sg) (x1 : Int32) (x2 : Int32) (x3 : Int32) (H : Heap) (locs : List Loc) (ls : Array Slot), kh σ x1 x2 x3 = some Rr → Gd b D cI cZ cO σ s.heap H locs → lv_has ls 4 [(0, .ref (b + 132)), (1, .int x1), (2, .int x2), (3, .int x3)] → W p l e rmX12_worst s m args below meth c H locs 0 0 (MQ below (QI b D cI cZ cO Rr) args s 0 0 (fun q => b ≤ q)) (F0 m 6 ls [])) (hxx : ∀ (σ : Sg) (x1 : Int32) (H : Heap) (locs : List Loc) (ls : Array Slot), kx σ x1 = some Rr → Gd b D cI cZ cO σ s.heap H locs → lv_has ls 4 [(1, .int x1)] → W p l e rmX12_worst s m args below meth c H locs 0 0 (MQ below (QI b D cI cZ cO Rr) args s 0 0 (fun q => b ≤ q)) (F0 m 66 ls [])) {σ : Sg} {x1 : Int32} {x2 : Int32} {x3 : Int32} {H : Heap} {locs : List Loc} {ls : Array Slot} (hs : fX12_worst_6b kh kx σ x1 x2 x3 = some Rr) (G : Gd b D cI cZ cO σ s.heap H locs) (hl : lv_has ls 4 [(0, .ref (b + 132)), (1, .int x1), (2, .int x2), (3, .int x3)]) : W p l e rmX12_worst s m args below meth c H locs 0 0 (MQ below (QI b D cI cZ cO Rr) args s 0 0 (fun q => b ≤ q)) (F0 m 6 ls []) := by
  have hx := C.1
  have hb := C.2.1
  unfold fX12_worst_6b at hs
  refine lv_iload_n hx hb dX12_worst_6 rfl (lv_at hl 3 rfl) ?_
  refine lv_aload_n hx hb dX12_worst_7 rfl (lv_at hl 0 rfl) ?_
  refine gf_X12_72 C G kd_132 dX12_worst_8 ?_
  refine lv_icmp_ge (tgt := 66) hx hb dX12_worst_11 (by decide) (fun c_3 => ?_) (fun c_3 => ?_)
  · replace hs := ifT c_3 hs
    exact hxx _ _ _ _ _ hs G (lv_sub hl [1] rfl)
  · replace hs := ifF c_3 hs
    refine lv_aload_n hx hb dX12_worst_14 rfl (lv_at hl 0 rfl) ?_
    refine gf_X12_19 C G kd_132 (n' := 136) rfl dX12_worst_15 ?_
    refine lv_bipush (v := 19) hx hb dX12_worst_18 (by decide) ?_
    refine lv_iload_n hx hb dX12_worst_20 rfl (lv_at hl 3 rfl) ?_
    refine lv_iadd hx hb dX12_worst_21 ?_
    obtain ⟨g_4, hs⟩ := gdE hs
    refine m_iald C G kd_136 ln_136 g_4 dX12_worst_22 ?_
    refine lv_iload_n hx hb dX12_worst_23 rfl (lv_at hl 2 rfl) ?_
    refine lv_icmp_le (tgt := 31) hx hb dX12_worst_24 (by decide) (fun c_5 => ?_) (fun c_5 => ?_)
    · replace hs := ifT c_5 hs
      refine lv_iload_n hx hb dX12_worst_31 rfl (lv_at hl 1 rfl) ?_
      exact wX12_worst_32 C  hh hxx hs G (lv_sub hl [0, 2, 3] rfl)
    · replace hs := ifF c_5 hs
      refine lv_iload_n hx hb dX12_worst_27 rfl (lv_at hl 3 rfl) ?_
      refine lv_goto (tgt := 32) hx hb dX12_worst_28 (by decide) ?_
      exact wX12_worst_32 C  hh hxx hs G (lv_sub hl [0, 2, 3] rfl)
def fX12_worst_6 : Nat → (Sg → Int32 → Option (Int32 × Sg)) → Sg → Int32 → Int32 → Int32 → Option (Int32 × Sg)
  | 0, _, _, _, _, _ => none
  | fu + 1, kx, σ, x1, x2, x3 => fX12_worst_6b (fX12_worst_6 fu kx) kx σ x1 x2 x3
theorem fX12_worst_6_s (fu : Nat) (kx : Sg → Int32 → Option (Int32 × Sg)) (σ : Sg) (x1 : Int32) (x2 : Int32) (x3 : Int32) : fX12_worst_6 (fu + 1) kx σ x1 x2 x3 = fX12_worst_6b (fX12_worst_6 fu kx) kx σ x1 x2 x3 := by rw [fX12_worst_6]
theorem wX12_worst_6 {p : Program} {l : Launch} {e : Env} {s : State} {m : MethodId} {args : Array Value} {below : List Frame} {meth : Method} {c : Code} {D : va_G} {cI cZ cO : ClassId} {b : Nat} (C : Cx p s m args meth c cX12_worst RX12 4 (some .int) D cI cZ cO) {Rr : (Int32 × Sg)} {kx : Sg → Int32 → Option (Int32 × Sg)} (hxx : ∀ (σ : Sg) (x1 : Int32) (H : Heap) (locs : List Loc) (ls : Array Slot), kx σ x1 = some Rr → Gd b D cI cZ cO σ s.heap H locs → lv_has ls 4 [(1, .int x1)] → W p l e rmX12_worst s m args below meth c H locs 0 0 (MQ below (QI b D cI cZ cO Rr) args s 0 0 (fun q => b ≤ q)) (F0 m 66 ls [])) : ∀ (fu : Nat) (σ : Sg) (x1 : Int32) (x2 : Int32) (x3 : Int32) (H : Heap) (locs : List Loc) (ls : Array Slot), fX12_worst_6 fu kx σ x1 x2 x3 = some Rr → Gd b D cI cZ cO σ s.heap H locs → lv_has ls 4 [(0, .ref (b + 132)), (1, .int x1), (2, .int x2), (3, .int x3)] → W p l e rmX12_worst s m args below meth c H locs 0 0 (MQ below (QI b D cI cZ cO Rr) args s 0 0 (fun q => b ≤ q)) (F0 m 6 ls []) := by
  intro fu
  induction fu with
  | zero => intro σ x1 x2 x3 H locs ls hs; cases hs
  | succ fu ih =>
    intro σ x1 x2 x3 H locs ls hs G hl
    exact wX12_worst_6b C (fun σ x1 x2 x3 H locs ls hs G hl => ih σ x1 x2 x3 H locs ls hs G hl) hxx hs G hl
def fX12_worst (σ : Sg) : Option (Int32 × Sg) :=
  lt (-1) (fun x1_1 => lt (-1) (fun x2_2 => fX12_worst_6 FU (fun σ_10 x1_10 => some (x1_10, σ_10)) σ x1_1 x2_2 0))
set_option maxRecDepth 100000 in
set_option maxHeartbeats 4000000 in
theorem ctX12_worst (l : Launch) {D : va_G} {cI cZ cO : ClassId} {b : Nat} {σ : Sg} {Rr : (Int32 × Sg)} (hs : fX12_worst σ = some Rr) : MI l yX12_worst cX12_worst 4 (some .int) rmX12_worst [.ref (b + 132)] b D cI cZ cO σ Rr := by
  unfold fX12_worst at hs
  refine metI (by decide +kernel) (Nat.le_of_ble_eq_true rfl) (fun p e s m below meth c ls C G hl => ?_)
  have C : Cx p s m _ meth c cX12_worst RX12 4 (some .int) D cI cZ cO := C
  have hx := C.1
  have hb := C.2.1
  have hl : lv_has ls 4 [(0, .ref (b + 132))] := hl
  refine lv_iconst (v := (-1)) hx hb dX12_worst_0 (by decide) ?_
  refine topI hs (fun x1_1 hs => ?_)
  refine lv_istore_n (lv' := [(1, .int x1_1), (0, .ref (b + 132))]) hx hb dX12_worst_1 rfl hl (by decide) rfl (fun ls hl => ?_)
  refine lv_iconst (v := (-1)) hx hb dX12_worst_2 (by decide) ?_
  refine topI hs (fun x2_2 hs => ?_)
  refine lv_istore_n (lv' := [(2, .int x2_2), (1, .int x1_1), (0, .ref (b + 132))]) hx hb dX12_worst_3 rfl hl (by decide) rfl (fun ls hl => ?_)
  refine lv_iconst (v := 0) hx hb dX12_worst_4 (by decide) ?_
  refine lv_istore_n (lv' := [(3, .int 0), (2, .int x2_2), (1, .int x1_1), (0, .ref (b + 132))]) hx hb dX12_worst_5 rfl hl (by decide) rfl (fun ls hl => ?_)
  refine wX12_worst_6 C (fun σ_10 x1_10 H locs ls hs G hl => ?_) FU _ _ _ _ _ _ _ hs G (lv_sub hl [3, 2, 1, 0] rfl)
  refine lv_iload_n hx hb dX12_worst_66 rfl (lv_at hl 0 rfl) ?_
  exact retI C G hs dX12_worst_67
-- X12_mayBe
def rmX12_mayBe : Room := { frames := 1, cells := 0, slots := 0, locals := 21 }
def fX12_mayBe_60 (kh : Sg → Int32 → Int32 → Int32 → Int32 → Option (Int32 × Sg)) (kx : Sg → Int32 → Int32 → Int32 → Option (Int32 × Sg)) (σ : Sg) (x1 : Int32) (x3 : Int32) (x5 : Int32) (y0 : Int32) (y1 : Int32) : Option (Int32 × Sg) :=
  lt (y1 + y0) (fun x4_7 => lt (x5 + 1) (fun x5_8 => kh σ x1 x3 x4_7 x5_8))
set_option maxRecDepth 100000 in
set_option maxHeartbeats 4000000 in
theorem wX12_mayBe_60 {p : Program} {l : Launch} {e : Env} {s : State} {m : MethodId} {args : Array Value} {below : List Frame} {meth : Method} {c : Code} {D : va_G} {cI cZ cO : ClassId} {b : Nat} (C : Cx p s m args meth c cX12_mayBe RX12 6 (some .boolean) D cI cZ cO) {Rr : (Int32 × Sg)} {kh : Sg → Int32 → Int32 → Int32 → Int32 → Option (Int32 × Sg)} {kx : Sg → Int32 → Int32 → Int32 → Option (Int32 × Sg)} (hh : ∀ (σ : Sg) (x1 : Int32) (x3 : Int32) (x4 : Int32) (x5 : Int32) (H : Heap) (locs : List Loc) (ls : Array Slot), kh σ x1 x3 x4 x5 = some Rr → Gd b D cI cZ cO σ s.heap H locs → lv_has ls 6 [(0, .ref (b + 132)), (1, .int x1), (3, .int x3), (4, .int x4), (5, .int x5)] → W p l e rmX12_mayBe s m args below meth c H locs 0 0 (MQ below (QI b D cI cZ cO Rr) args s 0 0 (fun q => b ≤ q)) (F0 m 25 ls [])) (hxx : ∀ (σ : Sg) (x1 : Int32) (x3 : Int32) (x4 : Int32) (H : Heap) (locs : List Loc) (ls : Array Slot), kx σ x1 x3 x4 = some Rr → Gd b D cI cZ cO σ s.heap H locs → lv_has ls 6 [(0, .ref (b + 132)), (1, .int x1), (3, .int x3), (4, .int x4)] → W p l e rmX12_mayBe s m args below meth c H locs 0 0 (MQ below (QI b D cI cZ cO Rr) args s 0 0 (fun q => b ≤ q)) (F0 m 69 ls [])) {σ : Sg} {x1 : Int32} {x3 : Int32} {x5 : Int32} {y0 : Int32} {y1 : Int32} {H : Heap} {locs : List Loc} {ls : Array Slot} (hs : fX12_mayBe_60 kh kx σ x1 x3 x5 y0 y1 = some Rr) (G : Gd b D cI cZ cO σ s.heap H locs) (hl : lv_has ls 6 [(0, .ref (b + 132)), (1, .int x1), (3, .int x3), (5, .int x5)]) : W p l e rmX12_mayBe s m args below meth c H locs 0 0 (MQ below (QI b D cI cZ cO Rr) args s 0 0 (fun q => b ≤ q)) (F0 m 60 ls [.int y0, .int y1]) := by
  have hx := C.1
  have hb := C.2.1
  unfold fX12_mayBe_60 at hs
  refine lv_iadd hx hb dX12_mayBe_60 ?_
  refine topI hs (fun x4_7 hs => ?_)
  refine lv_istore (lv' := [(4, .int x4_7), (0, .ref (b + 132)), (1, .int x1), (3, .int x3), (5, .int x5)]) hx hb dX12_mayBe_61 hl (by decide) rfl (fun ls hl => ?_)
  obtain ⟨x5_8, e_8, hs⟩ := ltE hs
  refine lv_iinc (v := x5_8) (lv' := [(5, .int x5_8), (4, .int x4_7), (0, .ref (b + 132)), (1, .int x1), (3, .int x3)]) hx hb dX12_mayBe_63 hl (k := 4) rfl (by rw [e_8]; rfl) (by decide) rfl (fun ls hl => ?_)
  refine lv_goto (tgt := 25) hx hb dX12_mayBe_66 (by decide) ?_
  exact hh _ _ _ _ _ _ _ _ hs G (lv_sub hl [2, 3, 4, 1, 0] rfl)
def fX12_mayBe_25b (kh : Sg → Int32 → Int32 → Int32 → Int32 → Option (Int32 × Sg)) (kx : Sg → Int32 → Int32 → Int32 → Option (Int32 × Sg)) (σ : Sg) (x1 : Int32) (x3 : Int32) (x4 : Int32) (x5 : Int32) : Option (Int32 × Sg) :=
  (if (σ 132 2) ≤ x5 then kx σ x1 x3 x4 else bi (fX12_has σ x1 x5) (fun r_5 σ_5 => (if r_5 = 0 then fX12_mayBe_60 kh kx σ_5 x1 x3 x5 0 x4 else (if inb ((4 * x3) + x5) 24 then fX12_mayBe_60 kh kx σ_5 x1 x3 x5 (σ_5 146 ((4 * x3) + x5).toNatClampNeg) x4 else none))))
set_option maxRecDepth 100000 in
set_option maxHeartbeats 4000000 in
theorem wX12_mayBe_25b {p : Program} {l : Launch} {e : Env} {s : State} {m : MethodId} {args : Array Value} {below : List Frame} {meth : Method} {c : Code} {D : va_G} {cI cZ cO : ClassId} {b : Nat} (C : Cx p s m args meth c cX12_mayBe RX12 6 (some .boolean) D cI cZ cO) {Rr : (Int32 × Sg)} {kh : Sg → Int32 → Int32 → Int32 → Int32 → Option (Int32 × Sg)} {kx : Sg → Int32 → Int32 → Int32 → Option (Int32 × Sg)} (hh : ∀ (σ : Sg) (x1 : Int32) (x3 : Int32) (x4 : Int32) (x5 : Int32) (H : Heap) (locs : List Loc) (ls : Array Slot), kh σ x1 x3 x4 x5 = some Rr → Gd b D cI cZ cO σ s.heap H locs → lv_has ls 6 [(0, .ref (b + 132)), (1, .int x1), (3, .int x3), (4, .int x4), (5, .int x5)] → W p l e rmX12_mayBe s m args below meth c H locs 0 0 (MQ below (QI b D cI cZ cO Rr) args s 0 0 (fun q => b ≤ q)) (F0 m 25 ls [])) (hxx : ∀ (σ : Sg) (x1 : Int32) (x3 : Int32) (x4 : Int32) (H : Heap) (locs : List Loc) (ls : Array Slot), kx σ x1 x3 x4 = some Rr → Gd b D cI cZ cO σ s.heap H locs → lv_has ls 6 [(0, .ref (b + 132)), (1, .int x1), (3, .int x3), (4, .int x4)] → W p l e rmX12_mayBe s m args below meth c H locs 0 0 (MQ below (QI b D cI cZ cO Rr) args s 0 0 (fun q => b ≤ q)) (F0 m 69 ls [])) {σ : Sg} {x1 : Int32} {x3 : Int32} {x4 : Int32} {x5 : Int32} {H : Heap} {locs : List Loc} {ls : Array Slot} (hs : fX12_mayBe_25b kh kx σ x1 x3 x4 x5 = some Rr) (G : Gd b D cI cZ cO σ s.heap H locs) (hl : lv_has ls 6 [(0, .ref (b + 132)), (1, .int x1), (3, .int x3), (4, .int x4), (5, .int x5)]) : W p l e rmX12_mayBe s m args below meth c H locs 0 0 (MQ below (QI b D cI cZ cO Rr) args s 0 0 (fun q => b ≤ q)) (F0 m 25 ls []) := by
  have hx := C.1
  have hb := C.2.1
  unfold fX12_mayBe_25b at hs
  refine lv_iload hx hb dX12_mayBe_25 (lv_at hl 4 rfl) ?_
  refine lv_aload_n hx hb dX12_mayBe_27 rfl (lv_at hl 0 rfl) ?_
  refine gf_X12_79 C G kd_132 dX12_mayBe_28 ?_
  refine lv_icmp_ge (tgt := 69) hx hb dX12_mayBe_31 (by decide) (fun c_4 => ?_) (fun c_4 => ?_)
  · replace hs := ifT c_4 hs
    exact hxx _ _ _ _ _ _ _ hs G (lv_sub hl [0, 1, 2, 3] rfl)
  · replace hs := ifF c_4 hs
    refine lv_iload hx hb dX12_mayBe_34 (lv_at hl 3 rfl) ?_
    refine lv_iload_n hx hb dX12_mayBe_36 rfl (lv_at hl 1 rfl) ?_
    refine lv_iload hx hb dX12_mayBe_37 (lv_at hl 4 rfl) ?_
    obtain ⟨r_5, σ_5, hc, hs⟩ := biE hs
    refine callSI (ar := 2) (As := [.int x1, .int x5]) (rest := [.int x4]) C G hl.1 (ctX12_has _  hc) ⟨wd_1069, wd_1070, wd_81, wd_1071⟩ (by decide +kernel) rfl ⟨rfl, rfl⟩ ⟨Nat.le_of_ble_eq_true rfl, Nat.le_of_ble_eq_true rfl⟩ (Nat.le_of_ble_eq_true rfl) ⟨Nat.le_of_ble_eq_true rfl, Nat.le_of_ble_eq_true rfl⟩ dX12_mayBe_39 rfl (fun H locs G => ?_)
    refine lv_if_eq (tgt := 59) hx hb dX12_mayBe_42 (by decide) (fun c_6 => ?_) (fun c_6 => ?_)
    · replace hs := ifT c_6 hs
      refine lv_iconst (v := 0) hx hb dX12_mayBe_59 (by decide) ?_
      exact wX12_mayBe_60 C  hh hxx hs G (lv_sub hl [0, 1, 2, 4] rfl)
    · replace hs := ifF c_6 hs
      refine lv_aload_n hx hb dX12_mayBe_45 rfl (lv_at hl 0 rfl) ?_
      refine gf_X12_53 C G kd_132 (n' := 146) rfl dX12_mayBe_46 ?_
      refine lv_iconst (v := 4) hx hb dX12_mayBe_49 (by decide) ?_
      refine lv_iload_n hx hb dX12_mayBe_50 rfl (lv_at hl 2 rfl) ?_
      refine lv_imul hx hb dX12_mayBe_51 ?_
      refine lv_iload hx hb dX12_mayBe_52 (lv_at hl 4 rfl) ?_
      refine lv_iadd hx hb dX12_mayBe_54 ?_
      obtain ⟨g_9, hs⟩ := gdE hs
      refine m_iald C G kd_146 ln_146 g_9 dX12_mayBe_55 ?_
      refine lv_goto (tgt := 60) hx hb dX12_mayBe_56 (by decide) ?_
      exact wX12_mayBe_60 C  hh hxx hs G (lv_sub hl [0, 1, 2, 4] rfl)
def fX12_mayBe_25 : Nat → (Sg → Int32 → Int32 → Int32 → Option (Int32 × Sg)) → Sg → Int32 → Int32 → Int32 → Int32 → Option (Int32 × Sg)
  | 0, _, _, _, _, _, _ => none
  | fu + 1, kx, σ, x1, x3, x4, x5 => fX12_mayBe_25b (fX12_mayBe_25 fu kx) kx σ x1 x3 x4 x5
theorem fX12_mayBe_25_s (fu : Nat) (kx : Sg → Int32 → Int32 → Int32 → Option (Int32 × Sg)) (σ : Sg) (x1 : Int32) (x3 : Int32) (x4 : Int32) (x5 : Int32) : fX12_mayBe_25 (fu + 1) kx σ x1 x3 x4 x5 = fX12_mayBe_25b (fX12_mayBe_25 fu kx) kx σ x1 x3 x4 x5 := by rw [fX12_mayBe_25]
theorem wX12_mayBe_25 {p : Program} {l : Launch} {e : Env} {s : State} {m : MethodId} {args : Array Value} {below : List Frame} {meth : Method} {c : Code} {D : va_G} {cI cZ cO : ClassId} {b : Nat} (C : Cx p s m args meth c cX12_mayBe RX12 6 (some .boolean) D cI cZ cO) {Rr : (Int32 × Sg)} {kx : Sg → Int32 → Int32 → Int32 → Option (Int32 × Sg)} (hxx : ∀ (σ : Sg) (x1 : Int32) (x3 : Int32) (x4 : Int32) (H : Heap) (locs : List Loc) (ls : Array Slot), kx σ x1 x3 x4 = some Rr → Gd b D cI cZ cO σ s.heap H locs → lv_has ls 6 [(0, .ref (b + 132)), (1, .int x1), (3, .int x3), (4, .int x4)] → W p l e rmX12_mayBe s m args below meth c H locs 0 0 (MQ below (QI b D cI cZ cO Rr) args s 0 0 (fun q => b ≤ q)) (F0 m 69 ls [])) : ∀ (fu : Nat) (σ : Sg) (x1 : Int32) (x3 : Int32) (x4 : Int32) (x5 : Int32) (H : Heap) (locs : List Loc) (ls : Array Slot), fX12_mayBe_25 fu kx σ x1 x3 x4 x5 = some Rr → Gd b D cI cZ cO σ s.heap H locs → lv_has ls 6 [(0, .ref (b + 132)), (1, .int x1), (3, .int x3), (4, .int x4), (5, .int x5)] → W p l e rmX12_mayBe s m args below meth c H locs 0 0 (MQ below (QI b D cI cZ cO Rr) args s 0 0 (fun q => b ≤ q)) (F0 m 25 ls []) := by
  intro fu
  induction fu with
  | zero => intro σ x1 x3 x4 x5 H locs ls hs; cases hs
  | succ fu ih =>
    intro σ x1 x3 x4 x5 H locs ls hs G hl
    exact wX12_mayBe_25b C (fun σ x1 x3 x4 x5 H locs ls hs G hl => ih σ x1 x3 x4 x5 H locs ls hs G hl) hxx hs G hl
def fX12_mayBe_85 (kh : Sg → Int32 → Int32 → Int32 → Option (Int32 × Sg)) (kx : Sg → Int32 → Option (Int32 × Sg)) (σ : Sg) (x1 : Int32) (x3 : Int32) (y0 : Int32) : Option (Int32 × Sg) :=
  lt (x3 + 1) (fun x3_13 => kh σ x1 y0 x3_13)
set_option maxRecDepth 100000 in
set_option maxHeartbeats 4000000 in
theorem wX12_mayBe_85 {p : Program} {l : Launch} {e : Env} {s : State} {m : MethodId} {args : Array Value} {below : List Frame} {meth : Method} {c : Code} {D : va_G} {cI cZ cO : ClassId} {b : Nat} (C : Cx p s m args meth c cX12_mayBe RX12 6 (some .boolean) D cI cZ cO) {Rr : (Int32 × Sg)} {kh : Sg → Int32 → Int32 → Int32 → Option (Int32 × Sg)} {kx : Sg → Int32 → Option (Int32 × Sg)} (hh : ∀ (σ : Sg) (x1 : Int32) (x2 : Int32) (x3 : Int32) (H : Heap) (locs : List Loc) (ls : Array Slot), kh σ x1 x2 x3 = some Rr → Gd b D cI cZ cO σ s.heap H locs → lv_has ls 6 [(0, .ref (b + 132)), (1, .int x1), (2, .int x2), (3, .int x3)] → W p l e rmX12_mayBe s m args below meth c H locs 0 0 (MQ below (QI b D cI cZ cO Rr) args s 0 0 (fun q => b ≤ q)) (F0 m 7 ls [])) (hxx : ∀ (σ : Sg) (x2 : Int32) (H : Heap) (locs : List Loc) (ls : Array Slot), kx σ x2 = some Rr → Gd b D cI cZ cO σ s.heap H locs → lv_has ls 6 [(2, .int x2)] → W p l e rmX12_mayBe s m args below meth c H locs 0 0 (MQ below (QI b D cI cZ cO Rr) args s 0 0 (fun q => b ≤ q)) (F0 m 92 ls [])) {σ : Sg} {x1 : Int32} {x3 : Int32} {y0 : Int32} {H : Heap} {locs : List Loc} {ls : Array Slot} (hs : fX12_mayBe_85 kh kx σ x1 x3 y0 = some Rr) (G : Gd b D cI cZ cO σ s.heap H locs) (hl : lv_has ls 6 [(0, .ref (b + 132)), (1, .int x1), (3, .int x3)]) : W p l e rmX12_mayBe s m args below meth c H locs 0 0 (MQ below (QI b D cI cZ cO Rr) args s 0 0 (fun q => b ≤ q)) (F0 m 85 ls [.int y0]) := by
  have hx := C.1
  have hb := C.2.1
  unfold fX12_mayBe_85 at hs
  refine lv_istore_n (lv' := [(2, .int y0), (0, .ref (b + 132)), (1, .int x1), (3, .int x3)]) hx hb dX12_mayBe_85 rfl hl (by decide) rfl (fun ls hl => ?_)
  obtain ⟨x3_13, e_13, hs⟩ := ltE hs
  refine lv_iinc (v := x3_13) (lv' := [(3, .int x3_13), (2, .int y0), (0, .ref (b + 132)), (1, .int x1)]) hx hb dX12_mayBe_86 hl (k := 3) rfl (by rw [e_13]; rfl) (by decide) rfl (fun ls hl => ?_)
  refine lv_goto (tgt := 7) hx hb dX12_mayBe_89 (by decide) ?_
  exact hh _ _ _ _ _ _ _ hs G (lv_sub hl [2, 3, 1, 0] rfl)
def fX12_mayBe_7b (kh : Sg → Int32 → Int32 → Int32 → Option (Int32 × Sg)) (kx : Sg → Int32 → Option (Int32 × Sg)) (σ : Sg) (x1 : Int32) (x2 : Int32) (x3 : Int32) : Option (Int32 × Sg) :=
  (if (σ 132 28) ≤ x3 then kx σ x2 else (if x2 = 0 then kx σ x2 else fX12_mayBe_25 FU (fun σ_10 x1_10 x3_10 x4_10 => (if inb x3_10 6 then (if x4_10 = (σ_10 145 x3_10.toNatClampNeg) then fX12_mayBe_85 kh kx σ_10 x1_10 x3_10 1 else fX12_mayBe_85 kh kx σ_10 x1_10 x3_10 0) else none)) σ x1 x3 0 0))
set_option maxRecDepth 100000 in
set_option maxHeartbeats 4000000 in
theorem wX12_mayBe_7b {p : Program} {l : Launch} {e : Env} {s : State} {m : MethodId} {args : Array Value} {below : List Frame} {meth : Method} {c : Code} {D : va_G} {cI cZ cO : ClassId} {b : Nat} (C : Cx p s m args meth c cX12_mayBe RX12 6 (some .boolean) D cI cZ cO) {Rr : (Int32 × Sg)} {kh : Sg → Int32 → Int32 → Int32 → Option (Int32 × Sg)} {kx : Sg → Int32 → Option (Int32 × Sg)} (hh : ∀ (σ : Sg) (x1 : Int32) (x2 : Int32) (x3 : Int32) (H : Heap) (locs : List Loc) (ls : Array Slot), kh σ x1 x2 x3 = some Rr → Gd b D cI cZ cO σ s.heap H locs → lv_has ls 6 [(0, .ref (b + 132)), (1, .int x1), (2, .int x2), (3, .int x3)] → W p l e rmX12_mayBe s m args below meth c H locs 0 0 (MQ below (QI b D cI cZ cO Rr) args s 0 0 (fun q => b ≤ q)) (F0 m 7 ls [])) (hxx : ∀ (σ : Sg) (x2 : Int32) (H : Heap) (locs : List Loc) (ls : Array Slot), kx σ x2 = some Rr → Gd b D cI cZ cO σ s.heap H locs → lv_has ls 6 [(2, .int x2)] → W p l e rmX12_mayBe s m args below meth c H locs 0 0 (MQ below (QI b D cI cZ cO Rr) args s 0 0 (fun q => b ≤ q)) (F0 m 92 ls [])) {σ : Sg} {x1 : Int32} {x2 : Int32} {x3 : Int32} {H : Heap} {locs : List Loc} {ls : Array Slot} (hs : fX12_mayBe_7b kh kx σ x1 x2 x3 = some Rr) (G : Gd b D cI cZ cO σ s.heap H locs) (hl : lv_has ls 6 [(0, .ref (b + 132)), (1, .int x1), (2, .int x2), (3, .int x3)]) : W p l e rmX12_mayBe s m args below meth c H locs 0 0 (MQ below (QI b D cI cZ cO Rr) args s 0 0 (fun q => b ≤ q)) (F0 m 7 ls []) := by
  have hx := C.1
  have hb := C.2.1
  unfold fX12_mayBe_7b at hs
  refine lv_iload_n hx hb dX12_mayBe_7 rfl (lv_at hl 3 rfl) ?_
  refine lv_aload_n hx hb dX12_mayBe_8 rfl (lv_at hl 0 rfl) ?_
  refine gf_X12_144 C G kd_132 dX12_mayBe_9 ?_
  refine lv_icmp_ge (tgt := 92) hx hb dX12_mayBe_12 (by decide) (fun c_2 => ?_) (fun c_2 => ?_)
  · replace hs := ifT c_2 hs
    exact hxx _ _ _ _ _ hs G (lv_sub hl [2] rfl)
  · replace hs := ifF c_2 hs
    refine lv_iload_n hx hb dX12_mayBe_15 rfl (lv_at hl 2 rfl) ?_
    refine lv_if_eq (tgt := 92) hx hb dX12_mayBe_16 (by decide) (fun c_3 => ?_) (fun c_3 => ?_)
    · replace hs := ifT c_3 hs
      exact hxx _ _ _ _ _ hs G (lv_sub hl [2] rfl)
    · replace hs := ifF c_3 hs
      refine lv_iconst (v := 0) hx hb dX12_mayBe_19 (by decide) ?_
      refine lv_istore (lv' := [(4, .int 0), (0, .ref (b + 132)), (1, .int x1), (2, .int x2), (3, .int x3)]) hx hb dX12_mayBe_20 hl (by decide) rfl (fun ls hl => ?_)
      refine lv_iconst (v := 0) hx hb dX12_mayBe_22 (by decide) ?_
      refine lv_istore (lv' := [(5, .int 0), (4, .int 0), (0, .ref (b + 132)), (1, .int x1), (2, .int x2), (3, .int x3)]) hx hb dX12_mayBe_23 hl (by decide) rfl (fun ls hl => ?_)
      refine wX12_mayBe_25 C (fun σ_10 x1_10 x3_10 x4_10 H locs ls hs G hl => ?_) FU _ _ _ _ _ _ _ _ hs G (lv_sub hl [2, 3, 5, 1, 0] rfl)
      refine lv_iload hx hb dX12_mayBe_69 (lv_at hl 3 rfl) ?_
      refine lv_aload_n hx hb dX12_mayBe_71 rfl (lv_at hl 0 rfl) ?_
      refine gf_X12_50 C G kd_132 (n' := 145) rfl dX12_mayBe_72 ?_
      refine lv_iload_n hx hb dX12_mayBe_75 rfl (lv_at hl 2 rfl) ?_
      obtain ⟨g_11, hs⟩ := gdE hs
      refine m_iald C G kd_145 ln_145 g_11 dX12_mayBe_76 ?_
      refine lv_icmp_ne (tgt := 84) hx hb dX12_mayBe_77 (by decide) (fun c_12 => ?_) (fun c_12 => ?_)
      · replace hs := ifF c_12 hs
        refine lv_iconst (v := 0) hx hb dX12_mayBe_84 (by decide) ?_
        exact wX12_mayBe_85 C  hh hxx hs G (lv_sub hl [0, 1, 2] rfl)
      · replace hs := ifT c_12 hs
        refine lv_iconst (v := 1) hx hb dX12_mayBe_80 (by decide) ?_
        refine lv_goto (tgt := 85) hx hb dX12_mayBe_81 (by decide) ?_
        exact wX12_mayBe_85 C  hh hxx hs G (lv_sub hl [0, 1, 2] rfl)
def fX12_mayBe_7 : Nat → (Sg → Int32 → Option (Int32 × Sg)) → Sg → Int32 → Int32 → Int32 → Option (Int32 × Sg)
  | 0, _, _, _, _, _ => none
  | fu + 1, kx, σ, x1, x2, x3 => fX12_mayBe_7b (fX12_mayBe_7 fu kx) kx σ x1 x2 x3
theorem fX12_mayBe_7_s (fu : Nat) (kx : Sg → Int32 → Option (Int32 × Sg)) (σ : Sg) (x1 : Int32) (x2 : Int32) (x3 : Int32) : fX12_mayBe_7 (fu + 1) kx σ x1 x2 x3 = fX12_mayBe_7b (fX12_mayBe_7 fu kx) kx σ x1 x2 x3 := by rw [fX12_mayBe_7]
theorem wX12_mayBe_7 {p : Program} {l : Launch} {e : Env} {s : State} {m : MethodId} {args : Array Value} {below : List Frame} {meth : Method} {c : Code} {D : va_G} {cI cZ cO : ClassId} {b : Nat} (C : Cx p s m args meth c cX12_mayBe RX12 6 (some .boolean) D cI cZ cO) {Rr : (Int32 × Sg)} {kx : Sg → Int32 → Option (Int32 × Sg)} (hxx : ∀ (σ : Sg) (x2 : Int32) (H : Heap) (locs : List Loc) (ls : Array Slot), kx σ x2 = some Rr → Gd b D cI cZ cO σ s.heap H locs → lv_has ls 6 [(2, .int x2)] → W p l e rmX12_mayBe s m args below meth c H locs 0 0 (MQ below (QI b D cI cZ cO Rr) args s 0 0 (fun q => b ≤ q)) (F0 m 92 ls [])) : ∀ (fu : Nat) (σ : Sg) (x1 : Int32) (x2 : Int32) (x3 : Int32) (H : Heap) (locs : List Loc) (ls : Array Slot), fX12_mayBe_7 fu kx σ x1 x2 x3 = some Rr → Gd b D cI cZ cO σ s.heap H locs → lv_has ls 6 [(0, .ref (b + 132)), (1, .int x1), (2, .int x2), (3, .int x3)] → W p l e rmX12_mayBe s m args below meth c H locs 0 0 (MQ below (QI b D cI cZ cO Rr) args s 0 0 (fun q => b ≤ q)) (F0 m 7 ls []) := by
  intro fu
  induction fu with
  | zero => intro σ x1 x2 x3 H locs ls hs; cases hs
  | succ fu ih =>
    intro σ x1 x2 x3 H locs ls hs G hl
    exact wX12_mayBe_7b C (fun σ x1 x2 x3 H locs ls hs G hl => ih σ x1 x2 x3 H locs ls hs G hl) hxx hs G hl
def fX12_mayBe_92 (σ : Sg) (x2 : Int32) : Option (Int32 × Sg) :=
  (if x2 = 0 ∨ x2 = 1 then some (x2, σ) else none)
set_option maxRecDepth 100000 in
set_option maxHeartbeats 4000000 in
theorem wX12_mayBe_92 {p : Program} {l : Launch} {e : Env} {s : State} {m : MethodId} {args : Array Value} {below : List Frame} {meth : Method} {c : Code} {D : va_G} {cI cZ cO : ClassId} {b : Nat} (C : Cx p s m args meth c cX12_mayBe RX12 6 (some .boolean) D cI cZ cO) {Rr : (Int32 × Sg)} {σ : Sg} {x2 : Int32} {H : Heap} {locs : List Loc} {ls : Array Slot} (hs : fX12_mayBe_92 σ x2 = some Rr) (G : Gd b D cI cZ cO σ s.heap H locs) (hl : lv_has ls 6 [(2, .int x2)]) : W p l e rmX12_mayBe s m args below meth c H locs 0 0 (MQ below (QI b D cI cZ cO Rr) args s 0 0 (fun q => b ≤ q)) (F0 m 92 ls []) := by
  have hx := C.1
  have hb := C.2.1
  unfold fX12_mayBe_92 at hs
  refine lv_iload_n hx hb dX12_mayBe_92 rfl (lv_at hl 0 rfl) ?_
  obtain ⟨g_15, hs⟩ := gdE hs
  exact retZ C G g_15 hs dX12_mayBe_93
def fX12_mayBe (σ : Sg) (x1 : Int32) : Option (Int32 × Sg) :=
  bi (fX12_isHills σ) (fun r_1 σ_1 => fX12_mayBe_7 FU (fun σ_14 x2_14 => fX12_mayBe_92 σ_14 x2_14) σ_1 x1 r_1 0)
set_option maxRecDepth 100000 in
set_option maxHeartbeats 4000000 in
theorem ctX12_mayBe (l : Launch) {D : va_G} {cI cZ cO : ClassId} {b : Nat} {σ : Sg} {x1 : Int32} {Rr : (Int32 × Sg)} (hs : fX12_mayBe σ x1 = some Rr) : MI l yX12_mayBe cX12_mayBe 6 (some .boolean) rmX12_mayBe [.ref (b + 132), .int x1] b D cI cZ cO σ Rr := by
  unfold fX12_mayBe at hs
  refine metI (by decide +kernel) (Nat.le_of_ble_eq_true rfl) (fun p e s m below meth c ls C G hl => ?_)
  have C : Cx p s m _ meth c cX12_mayBe RX12 6 (some .boolean) D cI cZ cO := C
  have hx := C.1
  have hb := C.2.1
  have hl : lv_has ls 6 [(0, .ref (b + 132)), (1, .int x1)] := hl
  refine lv_aload_n hx hb dX12_mayBe_0 rfl (lv_at hl 0 rfl) ?_
  obtain ⟨r_1, σ_1, hc, hs⟩ := biE hs
  refine callVI (ar := 0) (As := []) (rest := []) C G hl.1 (ctX12_isHills _  hc) ⟨wd_1091, wd_1093, wd_45, wd_81, wd_1094⟩ (by decide +kernel) rfl ⟨rfl, rfl⟩ ⟨Nat.le_of_ble_eq_true rfl, Nat.le_of_ble_eq_true rfl⟩ (kd_lt kd_132 (by decide)) (ent_12 b cI cZ cO _ kd_132) rfl (Nat.le_of_ble_eq_true rfl) ⟨Nat.le_of_ble_eq_true rfl, Nat.le_of_ble_eq_true rfl⟩ dX12_mayBe_1 rfl (fun H locs G => ?_)
  refine lv_istore_n (lv' := [(2, .int r_1), (0, .ref (b + 132)), (1, .int x1)]) hx hb dX12_mayBe_4 rfl hl (by decide) rfl (fun ls hl => ?_)
  refine lv_iconst (v := 0) hx hb dX12_mayBe_5 (by decide) ?_
  refine lv_istore_n (lv' := [(3, .int 0), (2, .int r_1), (0, .ref (b + 132)), (1, .int x1)]) hx hb dX12_mayBe_6 rfl hl (by decide) rfl (fun ls hl => ?_)
  refine wX12_mayBe_7 C (fun σ_14 x2_14 H locs ls hs G hl => ?_) FU _ _ _ _ _ _ _ hs G (lv_sub hl [2, 3, 1, 0] rfl)
  exact wX12_mayBe_92 C   hs G (lv_sub hl [0] rfl)
-- X12_manyWent
def rmX12_manyWent : Room := { frames := 2, cells := 0, slots := 0, locals := 46 }
def fX12_manyWent_28 (kh : Sg → Int32 → Int32 → Option (Int32 × Sg)) (kx : Sg → Int32 → Option (Int32 × Sg)) (σ : Sg) (x2 : Int32) (y0 : Int32) (y1 : Int32) : Option (Int32 × Sg) :=
  lt (y1 + y0) (fun x1_4 => lt (x2 + 1) (fun x2_5 => kh σ x1_4 x2_5))
set_option maxRecDepth 100000 in
set_option maxHeartbeats 4000000 in
theorem wX12_manyWent_28 {p : Program} {l : Launch} {e : Env} {s : State} {m : MethodId} {args : Array Value} {below : List Frame} {meth : Method} {c : Code} {D : va_G} {cI cZ cO : ClassId} {b : Nat} (C : Cx p s m args meth c cX12_manyWent RX12 3 (some .int) D cI cZ cO) {Rr : (Int32 × Sg)} {kh : Sg → Int32 → Int32 → Option (Int32 × Sg)} {kx : Sg → Int32 → Option (Int32 × Sg)} (hh : ∀ (σ : Sg) (x1 : Int32) (x2 : Int32) (H : Heap) (locs : List Loc) (ls : Array Slot), kh σ x1 x2 = some Rr → Gd b D cI cZ cO σ s.heap H locs → lv_has ls 3 [(0, .ref (b + 132)), (1, .int x1), (2, .int x2)] → W p l e rmX12_manyWent s m args below meth c H locs 0 0 (MQ below (QI b D cI cZ cO Rr) args s 0 0 (fun q => b ≤ q)) (F0 m 4 ls [])) (hxx : ∀ (σ : Sg) (x1 : Int32) (H : Heap) (locs : List Loc) (ls : Array Slot), kx σ x1 = some Rr → Gd b D cI cZ cO σ s.heap H locs → lv_has ls 3 [(1, .int x1)] → W p l e rmX12_manyWent s m args below meth c H locs 0 0 (MQ below (QI b D cI cZ cO Rr) args s 0 0 (fun q => b ≤ q)) (F0 m 36 ls [])) {σ : Sg} {x2 : Int32} {y0 : Int32} {y1 : Int32} {H : Heap} {locs : List Loc} {ls : Array Slot} (hs : fX12_manyWent_28 kh kx σ x2 y0 y1 = some Rr) (G : Gd b D cI cZ cO σ s.heap H locs) (hl : lv_has ls 3 [(0, .ref (b + 132)), (2, .int x2)]) : W p l e rmX12_manyWent s m args below meth c H locs 0 0 (MQ below (QI b D cI cZ cO Rr) args s 0 0 (fun q => b ≤ q)) (F0 m 28 ls [.int y0, .int y1]) := by
  have hx := C.1
  have hb := C.2.1
  unfold fX12_manyWent_28 at hs
  refine lv_iadd hx hb dX12_manyWent_28 ?_
  refine topI hs (fun x1_4 hs => ?_)
  refine lv_istore_n (lv' := [(1, .int x1_4), (0, .ref (b + 132)), (2, .int x2)]) hx hb dX12_manyWent_29 rfl hl (by decide) rfl (fun ls hl => ?_)
  obtain ⟨x2_5, e_5, hs⟩ := ltE hs
  refine lv_iinc (v := x2_5) (lv' := [(2, .int x2_5), (1, .int x1_4), (0, .ref (b + 132))]) hx hb dX12_manyWent_30 hl (k := 2) rfl (by rw [e_5]; rfl) (by decide) rfl (fun ls hl => ?_)
  refine lv_goto (tgt := 4) hx hb dX12_manyWent_33 (by decide) ?_
  exact hh _ _ _ _ _ _ hs G (lv_sub hl [2, 1, 0] rfl)
def fX12_manyWent_4b (kh : Sg → Int32 → Int32 → Option (Int32 × Sg)) (kx : Sg → Int32 → Option (Int32 × Sg)) (σ : Sg) (x1 : Int32) (x2 : Int32) : Option (Int32 × Sg) :=
  (if ((1 : Int32) <<< ((σ 132 2) &&& 31)) ≤ x2 then kx σ x1 else bi (fX12_mayBe σ x2) (fun r_2 σ_2 => (if r_2 = 0 then fX12_manyWent_28 kh kx σ_2 x2 0 x1 else fX12_manyWent_28 kh kx σ_2 x2 1 x1)))
set_option maxRecDepth 100000 in
set_option maxHeartbeats 4000000 in
theorem wX12_manyWent_4b {p : Program} {l : Launch} {e : Env} {s : State} {m : MethodId} {args : Array Value} {below : List Frame} {meth : Method} {c : Code} {D : va_G} {cI cZ cO : ClassId} {b : Nat} (C : Cx p s m args meth c cX12_manyWent RX12 3 (some .int) D cI cZ cO) {Rr : (Int32 × Sg)} {kh : Sg → Int32 → Int32 → Option (Int32 × Sg)} {kx : Sg → Int32 → Option (Int32 × Sg)} (hh : ∀ (σ : Sg) (x1 : Int32) (x2 : Int32) (H : Heap) (locs : List Loc) (ls : Array Slot), kh σ x1 x2 = some Rr → Gd b D cI cZ cO σ s.heap H locs → lv_has ls 3 [(0, .ref (b + 132)), (1, .int x1), (2, .int x2)] → W p l e rmX12_manyWent s m args below meth c H locs 0 0 (MQ below (QI b D cI cZ cO Rr) args s 0 0 (fun q => b ≤ q)) (F0 m 4 ls [])) (hxx : ∀ (σ : Sg) (x1 : Int32) (H : Heap) (locs : List Loc) (ls : Array Slot), kx σ x1 = some Rr → Gd b D cI cZ cO σ s.heap H locs → lv_has ls 3 [(1, .int x1)] → W p l e rmX12_manyWent s m args below meth c H locs 0 0 (MQ below (QI b D cI cZ cO Rr) args s 0 0 (fun q => b ≤ q)) (F0 m 36 ls [])) {σ : Sg} {x1 : Int32} {x2 : Int32} {H : Heap} {locs : List Loc} {ls : Array Slot} (hs : fX12_manyWent_4b kh kx σ x1 x2 = some Rr) (G : Gd b D cI cZ cO σ s.heap H locs) (hl : lv_has ls 3 [(0, .ref (b + 132)), (1, .int x1), (2, .int x2)]) : W p l e rmX12_manyWent s m args below meth c H locs 0 0 (MQ below (QI b D cI cZ cO Rr) args s 0 0 (fun q => b ≤ q)) (F0 m 4 ls []) := by
  have hx := C.1
  have hb := C.2.1
  unfold fX12_manyWent_4b at hs
  refine lv_iload_n hx hb dX12_manyWent_4 rfl (lv_at hl 2 rfl) ?_
  refine lv_iconst (v := 1) hx hb dX12_manyWent_5 (by decide) ?_
  refine lv_aload_n hx hb dX12_manyWent_6 rfl (lv_at hl 0 rfl) ?_
  refine gf_X12_79 C G kd_132 dX12_manyWent_7 ?_
  refine lv_ishl hx hb dX12_manyWent_10 ?_
  refine lv_icmp_ge (tgt := 36) hx hb dX12_manyWent_11 (by decide) (fun c_1 => ?_) (fun c_1 => ?_)
  · replace hs := ifT c_1 hs
    exact hxx _ _ _ _ _ hs G (lv_sub hl [1] rfl)
  · replace hs := ifF c_1 hs
    refine lv_iload_n hx hb dX12_manyWent_14 rfl (lv_at hl 1 rfl) ?_
    refine lv_aload_n hx hb dX12_manyWent_15 rfl (lv_at hl 0 rfl) ?_
    refine lv_iload_n hx hb dX12_manyWent_16 rfl (lv_at hl 2 rfl) ?_
    obtain ⟨r_2, σ_2, hc, hs⟩ := biE hs
    refine callVI (ar := 1) (As := [.int x2]) (rest := [.int x1]) C G hl.1 (ctX12_mayBe _  hc) ⟨wd_1087, wd_1089, wd_44, wd_81, wd_1090⟩ (by decide +kernel) rfl ⟨rfl, rfl⟩ ⟨Nat.le_of_ble_eq_true rfl, Nat.le_of_ble_eq_true rfl⟩ (kd_lt kd_132 (by decide)) (ent_12 b cI cZ cO _ kd_132) rfl (Nat.le_of_ble_eq_true rfl) ⟨Nat.le_of_ble_eq_true rfl, Nat.le_of_ble_eq_true rfl⟩ dX12_manyWent_17 rfl (fun H locs G => ?_)
    refine lv_if_eq (tgt := 27) hx hb dX12_manyWent_20 (by decide) (fun c_3 => ?_) (fun c_3 => ?_)
    · replace hs := ifT c_3 hs
      refine lv_iconst (v := 0) hx hb dX12_manyWent_27 (by decide) ?_
      exact wX12_manyWent_28 C  hh hxx hs G (lv_sub hl [0, 2] rfl)
    · replace hs := ifF c_3 hs
      refine lv_iconst (v := 1) hx hb dX12_manyWent_23 (by decide) ?_
      refine lv_goto (tgt := 28) hx hb dX12_manyWent_24 (by decide) ?_
      exact wX12_manyWent_28 C  hh hxx hs G (lv_sub hl [0, 2] rfl)
def fX12_manyWent_4 : Nat → (Sg → Int32 → Option (Int32 × Sg)) → Sg → Int32 → Int32 → Option (Int32 × Sg)
  | 0, _, _, _, _ => none
  | fu + 1, kx, σ, x1, x2 => fX12_manyWent_4b (fX12_manyWent_4 fu kx) kx σ x1 x2
theorem fX12_manyWent_4_s (fu : Nat) (kx : Sg → Int32 → Option (Int32 × Sg)) (σ : Sg) (x1 : Int32) (x2 : Int32) : fX12_manyWent_4 (fu + 1) kx σ x1 x2 = fX12_manyWent_4b (fX12_manyWent_4 fu kx) kx σ x1 x2 := by rw [fX12_manyWent_4]
theorem wX12_manyWent_4 {p : Program} {l : Launch} {e : Env} {s : State} {m : MethodId} {args : Array Value} {below : List Frame} {meth : Method} {c : Code} {D : va_G} {cI cZ cO : ClassId} {b : Nat} (C : Cx p s m args meth c cX12_manyWent RX12 3 (some .int) D cI cZ cO) {Rr : (Int32 × Sg)} {kx : Sg → Int32 → Option (Int32 × Sg)} (hxx : ∀ (σ : Sg) (x1 : Int32) (H : Heap) (locs : List Loc) (ls : Array Slot), kx σ x1 = some Rr → Gd b D cI cZ cO σ s.heap H locs → lv_has ls 3 [(1, .int x1)] → W p l e rmX12_manyWent s m args below meth c H locs 0 0 (MQ below (QI b D cI cZ cO Rr) args s 0 0 (fun q => b ≤ q)) (F0 m 36 ls [])) : ∀ (fu : Nat) (σ : Sg) (x1 : Int32) (x2 : Int32) (H : Heap) (locs : List Loc) (ls : Array Slot), fX12_manyWent_4 fu kx σ x1 x2 = some Rr → Gd b D cI cZ cO σ s.heap H locs → lv_has ls 3 [(0, .ref (b + 132)), (1, .int x1), (2, .int x2)] → W p l e rmX12_manyWent s m args below meth c H locs 0 0 (MQ below (QI b D cI cZ cO Rr) args s 0 0 (fun q => b ≤ q)) (F0 m 4 ls []) := by
  intro fu
  induction fu with
  | zero => intro σ x1 x2 H locs ls hs; cases hs
  | succ fu ih =>
    intro σ x1 x2 H locs ls hs G hl
    exact wX12_manyWent_4b C (fun σ x1 x2 H locs ls hs G hl => ih σ x1 x2 H locs ls hs G hl) hxx hs G hl
def fX12_manyWent (σ : Sg) : Option (Int32 × Sg) :=
  fX12_manyWent_4 FU (fun σ_6 x1_6 => some (x1_6, σ_6)) σ 0 0
set_option maxRecDepth 100000 in
set_option maxHeartbeats 4000000 in
theorem ctX12_manyWent (l : Launch) {D : va_G} {cI cZ cO : ClassId} {b : Nat} {σ : Sg} {Rr : (Int32 × Sg)} (hs : fX12_manyWent σ = some Rr) : MI l yX12_manyWent cX12_manyWent 3 (some .int) rmX12_manyWent [.ref (b + 132)] b D cI cZ cO σ Rr := by
  unfold fX12_manyWent at hs
  refine metI (by decide +kernel) (Nat.le_of_ble_eq_true rfl) (fun p e s m below meth c ls C G hl => ?_)
  have C : Cx p s m _ meth c cX12_manyWent RX12 3 (some .int) D cI cZ cO := C
  have hx := C.1
  have hb := C.2.1
  have hl : lv_has ls 3 [(0, .ref (b + 132))] := hl
  refine lv_iconst (v := 0) hx hb dX12_manyWent_0 (by decide) ?_
  refine lv_istore_n (lv' := [(1, .int 0), (0, .ref (b + 132))]) hx hb dX12_manyWent_1 rfl hl (by decide) rfl (fun ls hl => ?_)
  refine lv_iconst (v := 0) hx hb dX12_manyWent_2 (by decide) ?_
  refine lv_istore_n (lv' := [(2, .int 0), (1, .int 0), (0, .ref (b + 132))]) hx hb dX12_manyWent_3 rfl hl (by decide) rfl (fun ls hl => ?_)
  refine wX12_manyWent_4 C (fun σ_6 x1_6 H locs ls hs G hl => ?_) FU _ _ _ _ _ _ hs G (lv_sub hl [2, 1, 0] rfl)
  refine lv_iload_n hx hb dX12_manyWent_36 rfl (lv_at hl 0 rfl) ?_
  exact retI C G hs dX12_manyWent_37
-- X12_inEach
def rmX12_inEach : Room := { frames := 3, cells := 0, slots := 0, locals := 68 }
def fX12_inEach_35 (kh : Sg → Int32 → Int32 → Option (Int32 × Sg)) (kx : Sg → Int32 → Option (Int32 × Sg)) (σ : Sg) (x2 : Int32) (y0 : Int32) (y1 : Int32) : Option (Int32 × Sg) :=
  lt (y1 &&& y0) (fun x1_5 => lt (x2 + 1) (fun x2_6 => kh σ x1_5 x2_6))
set_option maxRecDepth 100000 in
set_option maxHeartbeats 4000000 in
theorem wX12_inEach_35 {p : Program} {l : Launch} {e : Env} {s : State} {m : MethodId} {args : Array Value} {below : List Frame} {meth : Method} {c : Code} {D : va_G} {cI cZ cO : ClassId} {b : Nat} (C : Cx p s m args meth c cX12_inEach RX12 3 (some .int) D cI cZ cO) {Rr : (Int32 × Sg)} {kh : Sg → Int32 → Int32 → Option (Int32 × Sg)} {kx : Sg → Int32 → Option (Int32 × Sg)} (hh : ∀ (σ : Sg) (x1 : Int32) (x2 : Int32) (H : Heap) (locs : List Loc) (ls : Array Slot), kh σ x1 x2 = some Rr → Gd b D cI cZ cO σ s.heap H locs → lv_has ls 3 [(0, .ref (b + 132)), (1, .int x1), (2, .int x2)] → W p l e rmX12_inEach s m args below meth c H locs 0 0 (MQ below (QI b D cI cZ cO Rr) args s 0 0 (fun q => b ≤ q)) (F0 m 11 ls [])) (hxx : ∀ (σ : Sg) (x1 : Int32) (H : Heap) (locs : List Loc) (ls : Array Slot), kx σ x1 = some Rr → Gd b D cI cZ cO σ s.heap H locs → lv_has ls 3 [(0, .ref (b + 132)), (1, .int x1)] → W p l e rmX12_inEach s m args below meth c H locs 0 0 (MQ below (QI b D cI cZ cO Rr) args s 0 0 (fun q => b ≤ q)) (F0 m 43 ls [])) {σ : Sg} {x2 : Int32} {y0 : Int32} {y1 : Int32} {H : Heap} {locs : List Loc} {ls : Array Slot} (hs : fX12_inEach_35 kh kx σ x2 y0 y1 = some Rr) (G : Gd b D cI cZ cO σ s.heap H locs) (hl : lv_has ls 3 [(0, .ref (b + 132)), (2, .int x2)]) : W p l e rmX12_inEach s m args below meth c H locs 0 0 (MQ below (QI b D cI cZ cO Rr) args s 0 0 (fun q => b ≤ q)) (F0 m 35 ls [.int y0, .int y1]) := by
  have hx := C.1
  have hb := C.2.1
  unfold fX12_inEach_35 at hs
  refine lv_iand hx hb dX12_inEach_35 ?_
  refine topI hs (fun x1_5 hs => ?_)
  refine lv_istore_n (lv' := [(1, .int x1_5), (0, .ref (b + 132)), (2, .int x2)]) hx hb dX12_inEach_36 rfl hl (by decide) rfl (fun ls hl => ?_)
  obtain ⟨x2_6, e_6, hs⟩ := ltE hs
  refine lv_iinc (v := x2_6) (lv' := [(2, .int x2_6), (1, .int x1_5), (0, .ref (b + 132))]) hx hb dX12_inEach_37 hl (k := 2) rfl (by rw [e_6]; rfl) (by decide) rfl (fun ls hl => ?_)
  refine lv_goto (tgt := 11) hx hb dX12_inEach_40 (by decide) ?_
  exact hh _ _ _ _ _ _ hs G (lv_sub hl [2, 1, 0] rfl)
def fX12_inEach_11b (kh : Sg → Int32 → Int32 → Option (Int32 × Sg)) (kx : Sg → Int32 → Option (Int32 × Sg)) (σ : Sg) (x1 : Int32) (x2 : Int32) : Option (Int32 × Sg) :=
  (if ((1 : Int32) <<< ((σ 132 2) &&& 31)) ≤ x2 then kx σ x1 else bi (fX12_mayBe σ x2) (fun r_3 σ_3 => (if r_3 = 0 then fX12_inEach_35 kh kx σ_3 x2 (-1) x1 else fX12_inEach_35 kh kx σ_3 x2 x2 x1)))
set_option maxRecDepth 100000 in
set_option maxHeartbeats 4000000 in
theorem wX12_inEach_11b {p : Program} {l : Launch} {e : Env} {s : State} {m : MethodId} {args : Array Value} {below : List Frame} {meth : Method} {c : Code} {D : va_G} {cI cZ cO : ClassId} {b : Nat} (C : Cx p s m args meth c cX12_inEach RX12 3 (some .int) D cI cZ cO) {Rr : (Int32 × Sg)} {kh : Sg → Int32 → Int32 → Option (Int32 × Sg)} {kx : Sg → Int32 → Option (Int32 × Sg)} (hh : ∀ (σ : Sg) (x1 : Int32) (x2 : Int32) (H : Heap) (locs : List Loc) (ls : Array Slot), kh σ x1 x2 = some Rr → Gd b D cI cZ cO σ s.heap H locs → lv_has ls 3 [(0, .ref (b + 132)), (1, .int x1), (2, .int x2)] → W p l e rmX12_inEach s m args below meth c H locs 0 0 (MQ below (QI b D cI cZ cO Rr) args s 0 0 (fun q => b ≤ q)) (F0 m 11 ls [])) (hxx : ∀ (σ : Sg) (x1 : Int32) (H : Heap) (locs : List Loc) (ls : Array Slot), kx σ x1 = some Rr → Gd b D cI cZ cO σ s.heap H locs → lv_has ls 3 [(0, .ref (b + 132)), (1, .int x1)] → W p l e rmX12_inEach s m args below meth c H locs 0 0 (MQ below (QI b D cI cZ cO Rr) args s 0 0 (fun q => b ≤ q)) (F0 m 43 ls [])) {σ : Sg} {x1 : Int32} {x2 : Int32} {H : Heap} {locs : List Loc} {ls : Array Slot} (hs : fX12_inEach_11b kh kx σ x1 x2 = some Rr) (G : Gd b D cI cZ cO σ s.heap H locs) (hl : lv_has ls 3 [(0, .ref (b + 132)), (1, .int x1), (2, .int x2)]) : W p l e rmX12_inEach s m args below meth c H locs 0 0 (MQ below (QI b D cI cZ cO Rr) args s 0 0 (fun q => b ≤ q)) (F0 m 11 ls []) := by
  have hx := C.1
  have hb := C.2.1
  unfold fX12_inEach_11b at hs
  refine lv_iload_n hx hb dX12_inEach_11 rfl (lv_at hl 2 rfl) ?_
  refine lv_iconst (v := 1) hx hb dX12_inEach_12 (by decide) ?_
  refine lv_aload_n hx hb dX12_inEach_13 rfl (lv_at hl 0 rfl) ?_
  refine gf_X12_79 C G kd_132 dX12_inEach_14 ?_
  refine lv_ishl hx hb dX12_inEach_17 ?_
  refine lv_icmp_ge (tgt := 43) hx hb dX12_inEach_18 (by decide) (fun c_2 => ?_) (fun c_2 => ?_)
  · replace hs := ifT c_2 hs
    exact hxx _ _ _ _ _ hs G (lv_sub hl [0, 1] rfl)
  · replace hs := ifF c_2 hs
    refine lv_iload_n hx hb dX12_inEach_21 rfl (lv_at hl 1 rfl) ?_
    refine lv_aload_n hx hb dX12_inEach_22 rfl (lv_at hl 0 rfl) ?_
    refine lv_iload_n hx hb dX12_inEach_23 rfl (lv_at hl 2 rfl) ?_
    obtain ⟨r_3, σ_3, hc, hs⟩ := biE hs
    refine callVI (ar := 1) (As := [.int x2]) (rest := [.int x1]) C G hl.1 (ctX12_mayBe _  hc) ⟨wd_1087, wd_1089, wd_44, wd_81, wd_1090⟩ (by decide +kernel) rfl ⟨rfl, rfl⟩ ⟨Nat.le_of_ble_eq_true rfl, Nat.le_of_ble_eq_true rfl⟩ (kd_lt kd_132 (by decide)) (ent_12 b cI cZ cO _ kd_132) rfl (Nat.le_of_ble_eq_true rfl) ⟨Nat.le_of_ble_eq_true rfl, Nat.le_of_ble_eq_true rfl⟩ dX12_inEach_24 rfl (fun H locs G => ?_)
    refine lv_if_eq (tgt := 34) hx hb dX12_inEach_27 (by decide) (fun c_4 => ?_) (fun c_4 => ?_)
    · replace hs := ifT c_4 hs
      refine lv_iconst (v := (-1)) hx hb dX12_inEach_34 (by decide) ?_
      exact wX12_inEach_35 C  hh hxx hs G (lv_sub hl [0, 2] rfl)
    · replace hs := ifF c_4 hs
      refine lv_iload_n hx hb dX12_inEach_30 rfl (lv_at hl 2 rfl) ?_
      refine lv_goto (tgt := 35) hx hb dX12_inEach_31 (by decide) ?_
      exact wX12_inEach_35 C  hh hxx hs G (lv_sub hl [0, 2] rfl)
def fX12_inEach_11 : Nat → (Sg → Int32 → Option (Int32 × Sg)) → Sg → Int32 → Int32 → Option (Int32 × Sg)
  | 0, _, _, _, _ => none
  | fu + 1, kx, σ, x1, x2 => fX12_inEach_11b (fX12_inEach_11 fu kx) kx σ x1 x2
theorem fX12_inEach_11_s (fu : Nat) (kx : Sg → Int32 → Option (Int32 × Sg)) (σ : Sg) (x1 : Int32) (x2 : Int32) : fX12_inEach_11 (fu + 1) kx σ x1 x2 = fX12_inEach_11b (fX12_inEach_11 fu kx) kx σ x1 x2 := by rw [fX12_inEach_11]
theorem wX12_inEach_11 {p : Program} {l : Launch} {e : Env} {s : State} {m : MethodId} {args : Array Value} {below : List Frame} {meth : Method} {c : Code} {D : va_G} {cI cZ cO : ClassId} {b : Nat} (C : Cx p s m args meth c cX12_inEach RX12 3 (some .int) D cI cZ cO) {Rr : (Int32 × Sg)} {kx : Sg → Int32 → Option (Int32 × Sg)} (hxx : ∀ (σ : Sg) (x1 : Int32) (H : Heap) (locs : List Loc) (ls : Array Slot), kx σ x1 = some Rr → Gd b D cI cZ cO σ s.heap H locs → lv_has ls 3 [(0, .ref (b + 132)), (1, .int x1)] → W p l e rmX12_inEach s m args below meth c H locs 0 0 (MQ below (QI b D cI cZ cO Rr) args s 0 0 (fun q => b ≤ q)) (F0 m 43 ls [])) : ∀ (fu : Nat) (σ : Sg) (x1 : Int32) (x2 : Int32) (H : Heap) (locs : List Loc) (ls : Array Slot), fX12_inEach_11 fu kx σ x1 x2 = some Rr → Gd b D cI cZ cO σ s.heap H locs → lv_has ls 3 [(0, .ref (b + 132)), (1, .int x1), (2, .int x2)] → W p l e rmX12_inEach s m args below meth c H locs 0 0 (MQ below (QI b D cI cZ cO Rr) args s 0 0 (fun q => b ≤ q)) (F0 m 11 ls []) := by
  intro fu
  induction fu with
  | zero => intro σ x1 x2 H locs ls hs; cases hs
  | succ fu ih =>
    intro σ x1 x2 H locs ls hs G hl
    exact wX12_inEach_11b C (fun σ x1 x2 H locs ls hs G hl => ih σ x1 x2 H locs ls hs G hl) hxx hs G hl
def fX12_inEach (σ : Sg) : Option (Int32 × Sg) :=
  lt (((1 : Int32) <<< ((σ 132 2) &&& 31)) - 1) (fun x1_1 => fX12_inEach_11 FU (fun σ_7 x1_7 => bi (fX12_manyWent σ_7) (fun r_8 σ_8 => (if r_8 = 0 then some ((-1), σ_8) else some (x1_7, σ_8)))) σ x1_1 0)
set_option maxRecDepth 100000 in
set_option maxHeartbeats 4000000 in
theorem ctX12_inEach (l : Launch) {D : va_G} {cI cZ cO : ClassId} {b : Nat} {σ : Sg} {Rr : (Int32 × Sg)} (hs : fX12_inEach σ = some Rr) : MI l yX12_inEach cX12_inEach 3 (some .int) rmX12_inEach [.ref (b + 132)] b D cI cZ cO σ Rr := by
  unfold fX12_inEach at hs
  refine metI (by decide +kernel) (Nat.le_of_ble_eq_true rfl) (fun p e s m below meth c ls C G hl => ?_)
  have C : Cx p s m _ meth c cX12_inEach RX12 3 (some .int) D cI cZ cO := C
  have hx := C.1
  have hb := C.2.1
  have hl : lv_has ls 3 [(0, .ref (b + 132))] := hl
  refine lv_iconst (v := 1) hx hb dX12_inEach_0 (by decide) ?_
  refine lv_aload_n hx hb dX12_inEach_1 rfl (lv_at hl 0 rfl) ?_
  refine gf_X12_79 C G kd_132 dX12_inEach_2 ?_
  refine lv_ishl hx hb dX12_inEach_5 ?_
  refine lv_iconst (v := 1) hx hb dX12_inEach_6 (by decide) ?_
  refine lv_isub hx hb dX12_inEach_7 ?_
  refine topI hs (fun x1_1 hs => ?_)
  refine lv_istore_n (lv' := [(1, .int x1_1), (0, .ref (b + 132))]) hx hb dX12_inEach_8 rfl hl (by decide) rfl (fun ls hl => ?_)
  refine lv_iconst (v := 0) hx hb dX12_inEach_9 (by decide) ?_
  refine lv_istore_n (lv' := [(2, .int 0), (1, .int x1_1), (0, .ref (b + 132))]) hx hb dX12_inEach_10 rfl hl (by decide) rfl (fun ls hl => ?_)
  refine wX12_inEach_11 C (fun σ_7 x1_7 H locs ls hs G hl => ?_) FU _ _ _ _ _ _ hs G (lv_sub hl [2, 1, 0] rfl)
  refine lv_aload_n hx hb dX12_inEach_43 rfl (lv_at hl 0 rfl) ?_
  obtain ⟨r_8, σ_8, hc, hs⟩ := biE hs
  refine callVI (ar := 0) (As := []) (rest := []) C G hl.1 (ctX12_manyWent _  hc) ⟨wd_1083, wd_1085, wd_43, wd_81, wd_1086⟩ (by decide +kernel) rfl ⟨rfl, rfl⟩ ⟨Nat.le_of_ble_eq_true rfl, Nat.le_of_ble_eq_true rfl⟩ (kd_lt kd_132 (by decide)) (ent_12 b cI cZ cO _ kd_132) rfl (Nat.le_of_ble_eq_true rfl) ⟨Nat.le_of_ble_eq_true rfl, Nat.le_of_ble_eq_true rfl⟩ dX12_inEach_44 rfl (fun H locs G => ?_)
  refine lv_if_ne (tgt := 54) hx hb dX12_inEach_47 (by decide) (fun c_9 => ?_) (fun c_9 => ?_)
  · replace hs := ifF c_9 hs
    refine lv_iload_n hx hb dX12_inEach_54 rfl (lv_at hl 1 rfl) ?_
    exact retI C G hs dX12_inEach_55
  · replace hs := ifT c_9 hs
    refine lv_iconst (v := (-1)) hx hb dX12_inEach_50 (by decide) ?_
    refine lv_goto (tgt := 55) hx hb dX12_inEach_51 (by decide) ?_
    exact retI C G hs dX12_inEach_55
