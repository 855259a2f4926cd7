-- X4_ringOf
def rmX4_ringOf : Room := { frames := 0, cells := 0, slots := 0, locals := 0 }
def fX4_ringOf_4b (n0 : Nat) (kh : Sg → Int32 → Int32 → Option (Int32 × Sg)) (kx : Sg → Int32 → Option (Int32 × Sg)) (σ : Sg) (x2 : Int32) (x3 : Int32) : Option (Int32 × Sg) :=
  (if (σ n0 4) ≤ x3 then kx σ x2 else (if x2 = (-1) then kx σ x2 else (if inb x2 7 then lt (σ (n0 + 4) x2.toNatClampNeg) (fun x2_4 => lt (x3 + 1) (fun x3_5 => kh σ x2_4 x3_5)) else none)))
set_option maxRecDepth 100000 in
set_option maxHeartbeats 4000000 in
theorem wX4_ringOf_4b {p : Program} {l : Launch} {e : Env} {s : State} {m : MethodId} {args : Array Value} {below : List Frame} {meth : Method} {c : Code} {D : va_G} {cI cZ cO : ClassId} {b : Nat} (C : Cx p s m args meth c cX4_ringOf RX4 5 (some .int) D cI cZ cO) {n0 : Nat} (hk0 : kd n0 = 4) {Rr : (Int32 × Sg)} {kh : Sg → Int32 → Int32 → Option (Int32 × Sg)} {kx : Sg → Int32 → Option (Int32 × Sg)} (hh : ∀ (σ : Sg) (x2 : Int32) (x3 : Int32) (H : Heap) (locs : List Loc) (ls : Array Slot), kh σ x2 x3 = some Rr → Gd b D cI cZ cO σ s.heap H locs → lv_has ls 5 [(0, .ref (b + n0)), (2, .int x2), (3, .int x3)] → W p l e rmX4_ringOf s m args below meth c H locs 0 0 (MQ below (QI b D cI cZ cO Rr) args s 0 0 (fun q => b ≤ q)) (F0 m 4 ls [])) (hxx : ∀ (σ : Sg) (x2 : Int32) (H : Heap) (locs : List Loc) (ls : Array Slot), kx σ x2 = some Rr → Gd b D cI cZ cO σ s.heap H locs → lv_has ls 5 [(0, .ref (b + n0)), (2, .int x2)] → W p l e rmX4_ringOf s m args below meth c H locs 0 0 (MQ below (QI b D cI cZ cO Rr) args s 0 0 (fun q => b ≤ q)) (F0 m 30 ls [])) {σ : Sg} {x2 : Int32} {x3 : Int32} {H : Heap} {locs : List Loc} {ls : Array Slot} (hs : fX4_ringOf_4b n0 kh kx σ x2 x3 = some Rr) (G : Gd b D cI cZ cO σ s.heap H locs) (hl : lv_has ls 5 [(0, .ref (b + n0)), (2, .int x2), (3, .int x3)]) : W p l e rmX4_ringOf s m args below meth c H locs 0 0 (MQ below (QI b D cI cZ cO Rr) args s 0 0 (fun q => b ≤ q)) (F0 m 4 ls []) := by
  have hx := C.1
  have hb := C.2.1
  unfold fX4_ringOf_4b at hs
  refine lv_iload_n hx hb dX4_ringOf_4 rfl (lv_at hl 2 rfl) ?_
  refine lv_aload_n hx hb dX4_ringOf_5 rfl (lv_at hl 0 rfl) ?_
  refine gf_X4_44 C G hk0 dX4_ringOf_6 ?_
  refine lv_icmp_ge (tgt := 30) hx hb dX4_ringOf_9 (by decide) (fun c_1 => ?_) (fun c_1 => ?_)
  · replace hs := ifT c_1 hs
    exact hxx _ _ _ _ _ hs G (lv_sub hl [0, 1] rfl)
  · replace hs := ifF c_1 hs
    refine lv_iload_n hx hb dX4_ringOf_12 rfl (lv_at hl 1 rfl) ?_
    refine lv_iconst (v := (-1)) hx hb dX4_ringOf_13 (by decide) ?_
    refine lv_icmp_eq (tgt := 30) hx hb dX4_ringOf_14 (by decide) (fun c_2 => ?_) (fun c_2 => ?_)
    · replace hs := ifT c_2 hs
      exact hxx _ _ _ _ _ hs G (lv_sub hl [0, 1] rfl)
    · replace hs := ifF c_2 hs
      refine lv_aload_n hx hb dX4_ringOf_17 rfl (lv_at hl 0 rfl) ?_
      refine gf_X4_21 C G hk0 (n' := (n0 + 4)) rfl dX4_ringOf_18 ?_
      refine lv_iload_n hx hb dX4_ringOf_21 rfl (lv_at hl 1 rfl) ?_
      obtain ⟨g_3, hs⟩ := gdE hs
      refine m_iald C G (kH4 hk0) (lH4 hk0) g_3 dX4_ringOf_22 ?_
      refine topI hs (fun x2_4 hs => ?_)
      refine lv_istore_n (lv' := [(2, .int x2_4), (0, .ref (b + n0)), (3, .int x3)]) hx hb dX4_ringOf_23 rfl hl (by decide) rfl (fun ls hl => ?_)
      obtain ⟨x3_5, e_5, hs⟩ := ltE hs
      refine lv_iinc (v := x3_5) (lv' := [(3, .int x3_5), (2, .int x2_4), (0, .ref (b + n0))]) hx hb dX4_ringOf_24 hl (k := 2) rfl (by rw [e_5]; rfl) (by decide) rfl (fun ls hl => ?_)
      refine lv_goto (tgt := 4) hx hb dX4_ringOf_27 (by decide) ?_
      exact hh _ _ _ _ _ _ hs G (lv_sub hl [2, 1, 0] rfl)
def fX4_ringOf_4 (n0 : Nat) : Nat → (Sg → Int32 → Option (Int32 × Sg)) → Sg → Int32 → Int32 → Option (Int32 × Sg)
  | 0, _, _, _, _ => none
  | fu + 1, kx, σ, x2, x3 => fX4_ringOf_4b n0 (fX4_ringOf_4 n0 fu kx) kx σ x2 x3
theorem fX4_ringOf_4_s (n0 : Nat) (fu : Nat) (kx : Sg → Int32 → Option (Int32 × Sg)) (σ : Sg) (x2 : Int32) (x3 : Int32) : fX4_ringOf_4 n0 (fu + 1) kx σ x2 x3 = fX4_ringOf_4b n0 (fX4_ringOf_4 n0 fu kx) kx σ x2 x3 := by rw [fX4_ringOf_4]
theorem wX4_ringOf_4 {p : Program} {l : Launch} {e : Env} {s : State} {m : MethodId} {args : Array Value} {below : List Frame} {meth : Method} {c : Code} {D : va_G} {cI cZ cO : ClassId} {b : Nat} (C : Cx p s m args meth c cX4_ringOf RX4 5 (some .int) D cI cZ cO) {n0 : Nat} (hk0 : kd n0 = 4) {Rr : (Int32 × Sg)} {kx : Sg → Int32 → Option (Int32 × Sg)} (hxx : ∀ (σ : Sg) (x2 : Int32) (H : Heap) (locs : List Loc) (ls : Array Slot), kx σ x2 = some Rr → Gd b D cI cZ cO σ s.heap H locs → lv_has ls 5 [(0, .ref (b + n0)), (2, .int x2)] → W p l e rmX4_ringOf s m args below meth c H locs 0 0 (MQ below (QI b D cI cZ cO Rr) args s 0 0 (fun q => b ≤ q)) (F0 m 30 ls [])) : ∀ (fu : Nat) (σ : Sg) (x2 : Int32) (x3 : Int32) (H : Heap) (locs : List Loc) (ls : Array Slot), fX4_ringOf_4 n0 fu kx σ x2 x3 = some Rr → Gd b D cI cZ cO σ s.heap H locs → lv_has ls 5 [(0, .ref (b + n0)), (2, .int x2), (3, .int x3)] → W p l e rmX4_ringOf s m args below meth c H locs 0 0 (MQ below (QI b D cI cZ cO Rr) args s 0 0 (fun q => b ≤ q)) (F0 m 4 ls []) := by
  intro fu
  induction fu with
  | zero => intro σ x2 x3 H locs ls hs; cases hs
  | succ fu ih =>
    intro σ x2 x3 H locs ls hs G hl
    exact wX4_ringOf_4b C hk0 (fun σ x2 x3 H locs ls hs G hl => ih σ x2 x3 H locs ls hs G hl) hxx hs G hl
def fX4_ringOf_47b (n0 : Nat) (kh : Sg → Int32 → Int32 → Int32 → Option (Int32 × Sg)) (kx : Sg → Int32 → Option (Int32 × Sg)) (σ : Sg) (x2 : Int32) (x3 : Int32) (x4 : Int32) : Option (Int32 × Sg) :=
  (if x4 = x2 then kx σ x3 else (if x4 = (-1) then kx σ x3 else (if (σ n0 4) ≤ x3 then kx σ x3 else lt (x3 + 1) (fun x3_13 => (if inb x4 7 then lt (σ (n0 + 4) x4.toNatClampNeg) (fun x4_15 => kh σ x2 x3_13 x4_15) else none)))))
set_option maxRecDepth 100000 in
set_option maxHeartbeats 4000000 in
theorem wX4_ringOf_47b {p : Program} {l : Launch} {e : Env} {s : State} {m : MethodId} {args : Array Value} {below : List Frame} {meth : Method} {c : Code} {D : va_G} {cI cZ cO : ClassId} {b : Nat} (C : Cx p s m args meth c cX4_ringOf RX4 5 (some .int) D cI cZ cO) {n0 : Nat} (hk0 : kd n0 = 4) {Rr : (Int32 × Sg)} {kh : Sg → Int32 → Int32 → Int32 → Option (Int32 × Sg)} {kx : Sg → Int32 → Option (Int32 × Sg)} (hh : ∀ (σ : Sg) (x2 : Int32) (x3 : Int32) (x4 : Int32) (H : Heap) (locs : List Loc) (ls : Array Slot), kh σ x2 x3 x4 = some Rr → Gd b D cI cZ cO σ s.heap H locs → lv_has ls 5 [(0, .ref (b + n0)), (2, .int x2), (3, .int x3), (4, .int x4)] → W p l e rmX4_ringOf s m args below meth c H locs 0 0 (MQ below (QI b D cI cZ cO Rr) args s 0 0 (fun q => b ≤ q)) (F0 m 47 ls [])) (hxx : ∀ (σ : Sg) (x3 : Int32) (H : Heap) (locs : List Loc) (ls : Array Slot), kx σ x3 = some Rr → Gd b D cI cZ cO σ s.heap H locs → lv_has ls 5 [(3, .int x3)] → W p l e rmX4_ringOf s m args below meth c H locs 0 0 (MQ below (QI b D cI cZ cO Rr) args s 0 0 (fun q => b ≤ q)) (F0 m 82 ls [])) {σ : Sg} {x2 : Int32} {x3 : Int32} {x4 : Int32} {H : Heap} {locs : List Loc} {ls : Array Slot} (hs : fX4_ringOf_47b n0 kh kx σ x2 x3 x4 = some Rr) (G : Gd b D cI cZ cO σ s.heap H locs) (hl : lv_has ls 5 [(0, .ref (b + n0)), (2, .int x2), (3, .int x3), (4, .int x4)]) : W p l e rmX4_ringOf s m args below meth c H locs 0 0 (MQ below (QI b D cI cZ cO Rr) args s 0 0 (fun q => b ≤ q)) (F0 m 47 ls []) := by
  have hx := C.1
  have hb := C.2.1
  unfold fX4_ringOf_47b at hs
  refine lv_iload hx hb dX4_ringOf_47 (lv_at hl 3 rfl) ?_
  refine lv_iload_n hx hb dX4_ringOf_49 rfl (lv_at hl 1 rfl) ?_
  refine lv_icmp_eq (tgt := 82) hx hb dX4_ringOf_50 (by decide) (fun c_10 => ?_) (fun c_10 => ?_)
  · replace hs := ifT c_10 hs
    exact hxx _ _ _ _ _ hs G (lv_sub hl [2] rfl)
  · replace hs := ifF c_10 hs
    refine lv_iload hx hb dX4_ringOf_53 (lv_at hl 3 rfl) ?_
    refine lv_iconst (v := (-1)) hx hb dX4_ringOf_55 (by decide) ?_
    refine lv_icmp_eq (tgt := 82) hx hb dX4_ringOf_56 (by decide) (fun c_11 => ?_) (fun c_11 => ?_)
    · replace hs := ifT c_11 hs
      exact hxx _ _ _ _ _ hs G (lv_sub hl [2] rfl)
    · replace hs := ifF c_11 hs
      refine lv_iload_n hx hb dX4_ringOf_59 rfl (lv_at hl 2 rfl) ?_
      refine lv_aload_n hx hb dX4_ringOf_60 rfl (lv_at hl 0 rfl) ?_
      refine gf_X4_44 C G hk0 dX4_ringOf_61 ?_
      refine lv_icmp_ge (tgt := 82) hx hb dX4_ringOf_64 (by decide) (fun c_12 => ?_) (fun c_12 => ?_)
      · replace hs := ifT c_12 hs
        exact hxx _ _ _ _ _ hs G (lv_sub hl [2] rfl)
      · replace hs := ifF c_12 hs
        obtain ⟨x3_13, e_13, hs⟩ := ltE hs
        refine lv_iinc (v := x3_13) (lv' := [(3, .int x3_13), (0, .ref (b + n0)), (2, .int x2), (4, .int x4)]) hx hb dX4_ringOf_67 hl (k := 2) rfl (by rw [e_13]; rfl) (by decide) rfl (fun ls hl => ?_)
        refine lv_aload_n hx hb dX4_ringOf_70 rfl (lv_at hl 1 rfl) ?_
        refine gf_X4_21 C G hk0 (n' := (n0 + 4)) rfl dX4_ringOf_71 ?_
        refine lv_iload hx hb dX4_ringOf_74 (lv_at hl 3 rfl) ?_
        obtain ⟨g_14, hs⟩ := gdE hs
        refine m_iald C G (kH4 hk0) (lH4 hk0) g_14 dX4_ringOf_76 ?_
        refine topI hs (fun x4_15 hs => ?_)
        refine lv_istore (lv' := [(4, .int x4_15), (3, .int x3_13), (0, .ref (b + n0)), (2, .int x2)]) hx hb dX4_ringOf_77 hl (by decide) rfl (fun ls hl => ?_)
        refine lv_goto (tgt := 47) hx hb dX4_ringOf_79 (by decide) ?_
        exact hh _ _ _ _ _ _ _ hs G (lv_sub hl [2, 3, 1, 0] rfl)
def fX4_ringOf_47 (n0 : Nat) : Nat → (Sg → Int32 → Option (Int32 × Sg)) → Sg → Int32 → Int32 → Int32 → Option (Int32 × Sg)
  | 0, _, _, _, _, _ => none
  | fu + 1, kx, σ, x2, x3, x4 => fX4_ringOf_47b n0 (fX4_ringOf_47 n0 fu kx) kx σ x2 x3 x4
theorem fX4_ringOf_47_s (n0 : Nat) (fu : Nat) (kx : Sg → Int32 → Option (Int32 × Sg)) (σ : Sg) (x2 : Int32) (x3 : Int32) (x4 : Int32) : fX4_ringOf_47 n0 (fu + 1) kx σ x2 x3 x4 = fX4_ringOf_47b n0 (fX4_ringOf_47 n0 fu kx) kx σ x2 x3 x4 := by rw [fX4_ringOf_47]
theorem wX4_ringOf_47 {p : Program} {l : Launch} {e : Env} {s : State} {m : MethodId} {args : Array Value} {below : List Frame} {meth : Method} {c : Code} {D : va_G} {cI cZ cO : ClassId} {b : Nat} (C : Cx p s m args meth c cX4_ringOf RX4 5 (some .int) D cI cZ cO) {n0 : Nat} (hk0 : kd n0 = 4) {Rr : (Int32 × Sg)} {kx : Sg → Int32 → Option (Int32 × Sg)} (hxx : ∀ (σ : Sg) (x3 : Int32) (H : Heap) (locs : List Loc) (ls : Array Slot), kx σ x3 = some Rr → Gd b D cI cZ cO σ s.heap H locs → lv_has ls 5 [(3, .int x3)] → W p l e rmX4_ringOf s m args below meth c H locs 0 0 (MQ below (QI b D cI cZ cO Rr) args s 0 0 (fun q => b ≤ q)) (F0 m 82 ls [])) : ∀ (fu : Nat) (σ : Sg) (x2 : Int32) (x3 : Int32) (x4 : Int32) (H : Heap) (locs : List Loc) (ls : Array Slot), fX4_ringOf_47 n0 fu kx σ x2 x3 x4 = some Rr → Gd b D cI cZ cO σ s.heap H locs → lv_has ls 5 [(0, .ref (b + n0)), (2, .int x2), (3, .int x3), (4, .int x4)] → W p l e rmX4_ringOf s m args below meth c H locs 0 0 (MQ below (QI b D cI cZ cO Rr) args s 0 0 (fun q => b ≤ q)) (F0 m 47 ls []) := by
  intro fu
  induction fu with
  | zero => intro σ x2 x3 x4 H locs ls hs; cases hs
  | succ fu ih =>
    intro σ x2 x3 x4 H locs ls hs G hl
    exact wX4_ringOf_47b C hk0 (fun σ x2 x3 x4 H locs ls hs G hl => ih σ x2 x3 x4 H locs ls hs G hl) hxx hs G hl
def fX4_ringOf_82 (n0 : Nat) (σ : Sg) (x3 : Int32) : Option (Int32 × Sg) :=
  some (x3, σ)
set_option maxRecDepth 100000 in
set_option maxHeartbeats 4000000 in
theorem wX4_ringOf_82 {p : Program} {l : Launch} {e : Env} {s : State} {m : MethodId} {args : Array Value} {below : List Frame} {meth : Method} {c : Code} {D : va_G} {cI cZ cO : ClassId} {b : Nat} (C : Cx p s m args meth c cX4_ringOf RX4 5 (some .int) D cI cZ cO) {n0 : Nat} (hk0 : kd n0 = 4) {Rr : (Int32 × Sg)} {σ : Sg} {x3 : Int32} {H : Heap} {locs : List Loc} {ls : Array Slot} (hs : fX4_ringOf_82 n0 σ x3 = some Rr) (G : Gd b D cI cZ cO σ s.heap H locs) (hl : lv_has ls 5 [(3, .int x3)]) : W p l e rmX4_ringOf s m args below meth c H locs 0 0 (MQ below (QI b D cI cZ cO Rr) args s 0 0 (fun q => b ≤ q)) (F0 m 82 ls []) := by
  have hx := C.1
  have hb := C.2.1
  unfold fX4_ringOf_82 at hs
  refine lv_iload_n hx hb dX4_ringOf_82 rfl (lv_at hl 0 rfl) ?_
  exact retI C G hs dX4_ringOf_83
def fX4_ringOf_30 (n0 : Nat) (σ : Sg) (x2 : Int32) : Option (Int32 × Sg) :=
  (if x2 = (-1) then some ((-1), σ) else (if inb x2 7 then lt (σ (n0 + 4) x2.toNatClampNeg) (fun x4_9 => fX4_ringOf_47 n0 FU (fun σ_16 x3_16 => fX4_ringOf_82 n0 σ_16 x3_16) σ x2 1 x4_9) else none))
set_option maxRecDepth 100000 in
set_option maxHeartbeats 4000000 in
theorem wX4_ringOf_30 {p : Program} {l : Launch} {e : Env} {s : State} {m : MethodId} {args : Array Value} {below : List Frame} {meth : Method} {c : Code} {D : va_G} {cI cZ cO : ClassId} {b : Nat} (C : Cx p s m args meth c cX4_ringOf RX4 5 (some .int) D cI cZ cO) {n0 : Nat} (hk0 : kd n0 = 4) {Rr : (Int32 × Sg)} {σ : Sg} {x2 : Int32} {H : Heap} {locs : List Loc} {ls : Array Slot} (hs : fX4_ringOf_30 n0 σ x2 = some Rr) (G : Gd b D cI cZ cO σ s.heap H locs) (hl : lv_has ls 5 [(0, .ref (b + n0)), (2, .int x2)]) : W p l e rmX4_ringOf s m args below meth c H locs 0 0 (MQ below (QI b D cI cZ cO Rr) args s 0 0 (fun q => b ≤ q)) (F0 m 30 ls []) := by
  have hx := C.1
  have hb := C.2.1
  unfold fX4_ringOf_30 at hs
  refine lv_iload_n hx hb dX4_ringOf_30 rfl (lv_at hl 1 rfl) ?_
  refine lv_iconst (v := (-1)) hx hb dX4_ringOf_31 (by decide) ?_
  refine lv_icmp_ne (tgt := 37) hx hb dX4_ringOf_32 (by decide) (fun c_7 => ?_) (fun c_7 => ?_)
  · replace hs := ifF c_7 hs
    refine lv_iconst (v := 1) hx hb dX4_ringOf_37 (by decide) ?_
    refine lv_istore_n (lv' := [(3, .int 1), (0, .ref (b + n0)), (2, .int x2)]) hx hb dX4_ringOf_38 rfl hl (by decide) rfl (fun ls hl => ?_)
    refine lv_aload_n hx hb dX4_ringOf_39 rfl (lv_at hl 1 rfl) ?_
    refine gf_X4_21 C G hk0 (n' := (n0 + 4)) rfl dX4_ringOf_40 ?_
    refine lv_iload_n hx hb dX4_ringOf_43 rfl (lv_at hl 2 rfl) ?_
    obtain ⟨g_8, hs⟩ := gdE hs
    refine m_iald C G (kH4 hk0) (lH4 hk0) g_8 dX4_ringOf_44 ?_
    refine topI hs (fun x4_9 hs => ?_)
    refine lv_istore (lv' := [(4, .int x4_9), (3, .int 1), (0, .ref (b + n0)), (2, .int x2)]) hx hb dX4_ringOf_45 hl (by decide) rfl (fun ls hl => ?_)
    refine wX4_ringOf_47 C hk0 (fun σ_16 x3_16 H locs ls hs G hl => ?_) FU _ _ _ _ _ _ _ hs G (lv_sub hl [2, 3, 1, 0] rfl)
    exact wX4_ringOf_82 C hk0  hs G (lv_sub hl [0] rfl)
  · replace hs := ifT c_7 hs
    refine lv_iconst (v := (-1)) hx hb dX4_ringOf_35 (by decide) ?_
    exact retI C G hs dX4_ringOf_36
def fX4_ringOf (n0 : Nat) (σ : Sg) (x1 : Int32) : Option (Int32 × Sg) :=
  fX4_ringOf_4 n0 FU (fun σ_6 x2_6 => fX4_ringOf_30 n0 σ_6 x2_6) σ x1 0
set_option maxRecDepth 100000 in
set_option maxHeartbeats 4000000 in
theorem ctX4_ringOf (l : Launch) {n0 : Nat} (hk0 : kd n0 = 4) {D : va_G} {cI cZ cO : ClassId} {b : Nat} {σ : Sg} {x1 : Int32} {Rr : (Int32 × Sg)} (hs : fX4_ringOf n0 σ x1 = some Rr) : MI l yX4_ringOf cX4_ringOf 5 (some .int) rmX4_ringOf [.ref (b + n0), .int x1] b D cI cZ cO σ Rr := by
  unfold fX4_ringOf at hs
  refine metI (by decide +kernel) (Nat.le_of_ble_eq_true rfl) (fun p e s m below meth c ls C G hl => ?_)
  have C : Cx p s m _ meth c cX4_ringOf RX4 5 (some .int) D cI cZ cO := C
  have hx := C.1
  have hb := C.2.1
  have hl : lv_has ls 5 [(0, .ref (b + n0)), (1, .int x1)] := hl
  refine lv_iload_n hx hb dX4_ringOf_0 rfl (lv_at hl 1 rfl) ?_
  refine lv_istore_n (lv' := [(2, .int x1), (0, .ref (b + n0)), (1, .int x1)]) hx hb dX4_ringOf_1 rfl hl (by decide) rfl (fun ls hl => ?_)
  refine lv_iconst (v := 0) hx hb dX4_ringOf_2 (by decide) ?_
  refine lv_istore_n (lv' := [(3, .int 0), (2, .int x1), (0, .ref (b + n0)), (1, .int x1)]) hx hb dX4_ringOf_3 rfl hl (by decide) rfl (fun ls hl => ?_)
  refine wX4_ringOf_4 C hk0 (fun σ_6 x2_6 H locs ls hs G hl => ?_) FU _ _ _ _ _ _ hs G (lv_sub hl [2, 1, 0] rfl)
  exact wX4_ringOf_30 C hk0  hs G (lv_sub hl [0, 1] rfl)
-- X4_firstOf
def rmX4_firstOf : Room := { frames := 0, cells := 0, slots := 0, locals := 0 }
def fX4_firstOf_4b (n0 : Nat) (kh : Sg → Int32 → Int32 → Option (Int32 × Sg)) (kx : Sg → Option (Int32 × Sg)) (σ : Sg) (x2 : Int32) (x3 : Int32) : Option (Int32 × Sg) :=
  (if (σ n0 4) ≤ x3 then kx σ else (if inb x2 7 then (if (σ (n0 + 4) x2.toNatClampNeg) = (-1) then some (x2, σ) else (if inb x2 7 then lt (σ (n0 + 4) x2.toNatClampNeg) (fun x2_5 => lt (x3 + 1) (fun x3_6 => kh σ x2_5 x3_6)) else none)) else none))
set_option maxRecDepth 100000 in
set_option maxHeartbeats 4000000 in
theorem wX4_firstOf_4b {p : Program} {l : Launch} {e : Env} {s : State} {m : MethodId} {args : Array Value} {below : List Frame} {meth : Method} {c : Code} {D : va_G} {cI cZ cO : ClassId} {b : Nat} (C : Cx p s m args meth c cX4_firstOf RX4 4 (some .int) D cI cZ cO) {n0 : Nat} (hk0 : kd n0 = 4) {Rr : (Int32 × Sg)} {kh : Sg → Int32 → Int32 → Option (Int32 × Sg)} {kx : Sg → Option (Int32 × Sg)} (hh : ∀ (σ : Sg) (x2 : Int32) (x3 : Int32) (H : Heap) (locs : List Loc) (ls : Array Slot), kh σ x2 x3 = some Rr → Gd b D cI cZ cO σ s.heap H locs → lv_has ls 4 [(0, .ref (b + n0)), (2, .int x2), (3, .int x3)] → W p l e rmX4_firstOf s m args below meth c H locs 0 0 (MQ below (QI b D cI cZ cO Rr) args s 0 0 (fun q => b ≤ q)) (F0 m 4 ls [])) (hxx : ∀ (σ : Sg) (H : Heap) (locs : List Loc) (ls : Array Slot), kx σ = some Rr → Gd b D cI cZ cO σ s.heap H locs → lv_has ls 4 [] → W p l e rmX4_firstOf s m args below meth c H locs 0 0 (MQ below (QI b D cI cZ cO Rr) args s 0 0 (fun q => b ≤ q)) (F0 m 37 ls [])) {σ : Sg} {x2 : Int32} {x3 : Int32} {H : Heap} {locs : List Loc} {ls : Array Slot} (hs : fX4_firstOf_4b n0 kh kx σ x2 x3 = some Rr) (G : Gd b D cI cZ cO σ s.heap H locs) (hl : lv_has ls 4 [(0, .ref (b + n0)), (2, .int x2), (3, .int x3)]) : W p l e rmX4_firstOf s m args below meth c H locs 0 0 (MQ below (QI b D cI cZ cO Rr) args s 0 0 (fun q => b ≤ q)) (F0 m 4 ls []) := by
  have hx := C.1
  have hb := C.2.1
  unfold fX4_firstOf_4b at hs
  refine lv_iload_n hx hb dX4_firstOf_4 rfl (lv_at hl 2 rfl) ?_
  refine lv_aload_n hx hb dX4_firstOf_5 rfl (lv_at hl 0 rfl) ?_
  refine gf_X4_44 C G hk0 dX4_firstOf_6 ?_
  refine lv_icmp_ge (tgt := 37) hx hb dX4_firstOf_9 (by decide) (fun c_1 => ?_) (fun c_1 => ?_)
  · replace hs := ifT c_1 hs
    exact hxx _ _ _ _ hs G (lv_sub hl [] rfl)
  · replace hs := ifF c_1 hs
    refine lv_aload_n hx hb dX4_firstOf_12 rfl (lv_at hl 0 rfl) ?_
    refine gf_X4_21 C G hk0 (n' := (n0 + 4)) rfl dX4_firstOf_13 ?_
    refine lv_iload_n hx hb dX4_firstOf_16 rfl (lv_at hl 1 rfl) ?_
    obtain ⟨g_2, hs⟩ := gdE hs
    refine m_iald C G (kH4 hk0) (lH4 hk0) g_2 dX4_firstOf_17 ?_
    refine lv_iconst (v := (-1)) hx hb dX4_firstOf_18 (by decide) ?_
    refine lv_icmp_ne (tgt := 24) hx hb dX4_firstOf_19 (by decide) (fun c_3 => ?_) (fun c_3 => ?_)
    · replace hs := ifF c_3 hs
      refine lv_aload_n hx hb dX4_firstOf_24 rfl (lv_at hl 0 rfl) ?_
      refine gf_X4_21 C G hk0 (n' := (n0 + 4)) rfl dX4_firstOf_25 ?_
      refine lv_iload_n hx hb dX4_firstOf_28 rfl (lv_at hl 1 rfl) ?_
      obtain ⟨g_4, hs⟩ := gdE hs
      refine m_iald C G (kH4 hk0) (lH4 hk0) g_4 dX4_firstOf_29 ?_
      refine topI hs (fun x2_5 hs => ?_)
      refine lv_istore_n (lv' := [(2, .int x2_5), (0, .ref (b + n0)), (3, .int x3)]) hx hb dX4_firstOf_30 rfl hl (by decide) rfl (fun ls hl => ?_)
      obtain ⟨x3_6, e_6, hs⟩ := ltE hs
      refine lv_iinc (v := x3_6) (lv' := [(3, .int x3_6), (2, .int x2_5), (0, .ref (b + n0))]) hx hb dX4_firstOf_31 hl (k := 2) rfl (by rw [e_6]; rfl) (by decide) rfl (fun ls hl => ?_)
      refine lv_goto (tgt := 4) hx hb dX4_firstOf_34 (by decide) ?_
      exact hh _ _ _ _ _ _ hs G (lv_sub hl [2, 1, 0] rfl)
    · replace hs := ifT c_3 hs
      refine lv_iload_n hx hb dX4_firstOf_22 rfl (lv_at hl 1 rfl) ?_
      exact retI C G hs dX4_firstOf_23
def fX4_firstOf_4 (n0 : Nat) : Nat → (Sg → Option (Int32 × Sg)) → Sg → Int32 → Int32 → Option (Int32 × Sg)
  | 0, _, _, _, _ => none
  | fu + 1, kx, σ, x2, x3 => fX4_firstOf_4b n0 (fX4_firstOf_4 n0 fu kx) kx σ x2 x3
theorem fX4_firstOf_4_s (n0 : Nat) (fu : Nat) (kx : Sg → Option (Int32 × Sg)) (σ : Sg) (x2 : Int32) (x3 : Int32) : fX4_firstOf_4 n0 (fu + 1) kx σ x2 x3 = fX4_firstOf_4b n0 (fX4_firstOf_4 n0 fu kx) kx σ x2 x3 := by rw [fX4_firstOf_4]
theorem wX4_firstOf_4 {p : Program} {l : Launch} {e : Env} {s : State} {m : MethodId} {args : Array Value} {below : List Frame} {meth : Method} {c : Code} {D : va_G} {cI cZ cO : ClassId} {b : Nat} (C : Cx p s m args meth c cX4_firstOf RX4 4 (some .int) D cI cZ cO) {n0 : Nat} (hk0 : kd n0 = 4) {Rr : (Int32 × Sg)} {kx : Sg → Option (Int32 × Sg)} (hxx : ∀ (σ : Sg) (H : Heap) (locs : List Loc) (ls : Array Slot), kx σ = some Rr → Gd b D cI cZ cO σ s.heap H locs → lv_has ls 4 [] → W p l e rmX4_firstOf s m args below meth c H locs 0 0 (MQ below (QI b D cI cZ cO Rr) args s 0 0 (fun q => b ≤ q)) (F0 m 37 ls [])) : ∀ (fu : Nat) (σ : Sg) (x2 : Int32) (x3 : Int32) (H : Heap) (locs : List Loc) (ls : Array Slot), fX4_firstOf_4 n0 fu kx σ x2 x3 = some Rr → Gd b D cI cZ cO σ s.heap H locs → lv_has ls 4 [(0, .ref (b + n0)), (2, .int x2), (3, .int x3)] → W p l e rmX4_firstOf s m args below meth c H locs 0 0 (MQ below (QI b D cI cZ cO Rr) args s 0 0 (fun q => b ≤ q)) (F0 m 4 ls []) := by
  intro fu
  induction fu with
  | zero => intro σ x2 x3 H locs ls hs; cases hs
  | succ fu ih =>
    intro σ x2 x3 H locs ls hs G hl
    exact wX4_firstOf_4b C hk0 (fun σ x2 x3 H locs ls hs G hl => ih σ x2 x3 H locs ls hs G hl) hxx hs G hl
def fX4_firstOf (n0 : Nat) (σ : Sg) (x1 : Int32) : Option (Int32 × Sg) :=
  fX4_firstOf_4 n0 FU (fun σ_7 => some ((-1), σ_7)) σ x1 0
set_option maxRecDepth 100000 in
set_option maxHeartbeats 4000000 in
theorem ctX4_firstOf (l : Launch) {n0 : Nat} (hk0 : kd n0 = 4) {D : va_G} {cI cZ cO : ClassId} {b : Nat} {σ : Sg} {x1 : Int32} {Rr : (Int32 × Sg)} (hs : fX4_firstOf n0 σ x1 = some Rr) : MI l yX4_firstOf cX4_firstOf 4 (some .int) rmX4_firstOf [.ref (b + n0), .int x1] b D cI cZ cO σ Rr := by
  unfold fX4_firstOf at hs
  refine metI (by decide +kernel) (Nat.le_of_ble_eq_true rfl) (fun p e s m below meth c ls C G hl => ?_)
  have C : Cx p s m _ meth c cX4_firstOf RX4 4 (some .int) D cI cZ cO := C
  have hx := C.1
  have hb := C.2.1
  have hl : lv_has ls 4 [(0, .ref (b + n0)), (1, .int x1)] := hl
  refine lv_iload_n hx hb dX4_firstOf_0 rfl (lv_at hl 1 rfl) ?_
  refine lv_istore_n (lv' := [(2, .int x1), (0, .ref (b + n0)), (1, .int x1)]) hx hb dX4_firstOf_1 rfl hl (by decide) rfl (fun ls hl => ?_)
  refine lv_iconst (v := 0) hx hb dX4_firstOf_2 (by decide) ?_
  refine lv_istore_n (lv' := [(3, .int 0), (2, .int x1), (0, .ref (b + n0)), (1, .int x1)]) hx hb dX4_firstOf_3 rfl hl (by decide) rfl (fun ls hl => ?_)
  refine wX4_firstOf_4 C hk0 (fun σ_7 H locs ls hs G hl => ?_) FU _ _ _ _ _ _ hs G (lv_sub hl [2, 1, 0] rfl)
  refine lv_iconst (v := (-1)) hx hb dX4_firstOf_37 (by decide) ?_
  exact retI C G hs dX4_firstOf_38
-- X10_copyFrom
def rmX10_copyFrom : Room := { frames := 1, cells := 0, slots := 0, locals := 30 }
def fX10_copyFrom (n0 : Nat) (n1 : Nat) (σ : Sg) : Option Sg :=
  lt (st σ n0 0 (σ n1 0)) (fun σ_1 => lt (st σ_1 n0 1 (σ_1 n1 1)) (fun σ_2 => lt (st σ_2 n0 2 (σ_2 n1 2)) (fun σ_3 => lt (st σ_3 n0 3 (σ_3 n1 3)) (fun σ_4 => lt (st σ_4 n0 4 (σ_4 n1 4)) (fun σ_5 => (if ¬ (0 : Int32) < 0 ∧ ¬ (0 : Int32) < 0 ∧ ¬ (7 : Int32) < 0 ∧ (0 : Int32).toNatClampNeg + (7 : Int32).toNatClampNeg ≤ 7 ∧ (0 : Int32).toNatClampNeg + (7 : Int32).toNatClampNeg ≤ 7 then lt (sr σ_5 (n0 + 1) (va_cpy (σ_5 (n1 + 1)) (σ_5 (n0 + 1)) (0 : Int32).toNatClampNeg (0 : Int32).toNatClampNeg (7 : Int32).toNatClampNeg)) (fun σ_6 => (if ¬ (0 : Int32) < 0 ∧ ¬ (0 : Int32) < 0 ∧ ¬ (7 : Int32) < 0 ∧ (0 : Int32).toNatClampNeg + (7 : Int32).toNatClampNeg ≤ 7 ∧ (0 : Int32).toNatClampNeg + (7 : Int32).toNatClampNeg ≤ 7 then lt (sr σ_6 (n0 + 2) (va_cpy (σ_6 (n1 + 2)) (σ_6 (n0 + 2)) (0 : Int32).toNatClampNeg (0 : Int32).toNatClampNeg (7 : Int32).toNatClampNeg)) (fun σ_7 => (if ¬ (0 : Int32) < 0 ∧ ¬ (0 : Int32) < 0 ∧ ¬ (7 : Int32) < 0 ∧ (0 : Int32).toNatClampNeg + (7 : Int32).toNatClampNeg ≤ 7 ∧ (0 : Int32).toNatClampNeg + (7 : Int32).toNatClampNeg ≤ 7 then lt (sr σ_7 (n0 + 3) (va_cpy (σ_7 (n1 + 3)) (σ_7 (n0 + 3)) (0 : Int32).toNatClampNeg (0 : Int32).toNatClampNeg (7 : Int32).toNatClampNeg)) (fun σ_8 => (if ¬ (0 : Int32) < 0 ∧ ¬ (0 : Int32) < 0 ∧ ¬ (4 : Int32) < 0 ∧ (0 : Int32).toNatClampNeg + (4 : Int32).toNatClampNeg ≤ 4 ∧ (0 : Int32).toNatClampNeg + (4 : Int32).toNatClampNeg ≤ 4 then lt (sr σ_8 (n0 + 4) (va_cpy (σ_8 (n1 + 4)) (σ_8 (n0 + 4)) (0 : Int32).toNatClampNeg (0 : Int32).toNatClampNeg (4 : Int32).toNatClampNeg)) (fun σ_9 => some σ_9) else none)) else none)) else none)) else none))))))
set_option maxRecDepth 100000 in
set_option maxHeartbeats 4000000 in
theorem ctX10_copyFrom (l : Launch) {n0 : Nat} {n1 : Nat} (hk0 : kd n0 = 10) (hk1 : kd n1 = 10) {D : va_G} {cI cZ cO : ClassId} {b : Nat} {σ : Sg} {Rr : Sg} (hs : fX10_copyFrom n0 n1 σ = some Rr) : MV l yX10_copyFrom cX10_copyFrom 2 rmX10_copyFrom [.ref (b + n0), .ref (b + n1)] b D cI cZ cO σ Rr := by
  unfold fX10_copyFrom at hs
  refine metV (by decide +kernel) (Nat.le_of_ble_eq_true rfl) (fun p e s m below meth c ls C G hl => ?_)
  have C : Cx p s m _ meth c cX10_copyFrom RX10 2 none D cI cZ cO := C
  have hx := C.1
  have hb := C.2.1
  have hl : lv_has ls 2 [(0, .ref (b + n0)), (1, .ref (b + n1))] := hl
  refine lv_aload_n hx hb dX10_copyFrom_0 rfl (lv_at hl 0 rfl) ?_
  refine lv_aload_n hx hb dX10_copyFrom_1 rfl (lv_at hl 1 rfl) ?_
  refine gf_X10_30 C G hk1 dX10_copyFrom_2 ?_
  refine pf_X10_30 C G hk0 hs dX10_copyFrom_5 (fun σ_1 H locs hs G => ?_)
  refine lv_aload_n hx hb dX10_copyFrom_8 rfl (lv_at hl 0 rfl) ?_
  refine lv_aload_n hx hb dX10_copyFrom_9 rfl (lv_at hl 1 rfl) ?_
  refine gf_X10_31 C G hk1 dX10_copyFrom_10 ?_
  refine pf_X10_31 C G hk0 hs dX10_copyFrom_13 (fun σ_2 H locs hs G => ?_)
  refine lv_aload_n hx hb dX10_copyFrom_16 rfl (lv_at hl 0 rfl) ?_
  refine lv_aload_n hx hb dX10_copyFrom_17 rfl (lv_at hl 1 rfl) ?_
  refine gf_X10_34 C G hk1 dX10_copyFrom_18 ?_
  refine pf_X10_34 C G hk0 hs dX10_copyFrom_21 (fun σ_3 H locs hs G => ?_)
  refine lv_aload_n hx hb dX10_copyFrom_24 rfl (lv_at hl 0 rfl) ?_
  refine lv_aload_n hx hb dX10_copyFrom_25 rfl (lv_at hl 1 rfl) ?_
  refine gf_X10_37 C G hk1 dX10_copyFrom_26 ?_
  refine pf_X10_37 C G hk0 hs dX10_copyFrom_29 (fun σ_4 H locs hs G => ?_)
  refine lv_aload_n hx hb dX10_copyFrom_32 rfl (lv_at hl 0 rfl) ?_
  refine lv_aload_n hx hb dX10_copyFrom_33 rfl (lv_at hl 1 rfl) ?_
  refine gf_X10_40 C G hk1 dX10_copyFrom_34 ?_
  refine pf_X10_40 C G hk0 hs dX10_copyFrom_37 (fun σ_5 H locs hs G => ?_)
  refine lv_aload_n hx hb dX10_copyFrom_40 rfl (lv_at hl 1 rfl) ?_
  refine gf_X10_9 C G hk1 (n' := (n1 + 1)) rfl dX10_copyFrom_41 ?_
  refine lv_iconst (v := 0) hx hb dX10_copyFrom_44 (by decide) ?_
  refine lv_aload_n hx hb dX10_copyFrom_45 rfl (lv_at hl 0 rfl) ?_
  refine gf_X10_9 C G hk0 (n' := (n0 + 1)) rfl dX10_copyFrom_46 ?_
  refine lv_iconst (v := 0) hx hb dX10_copyFrom_49 (by decide) ?_
  refine lv_bipush (v := 7) hx hb dX10_copyFrom_50 (by decide) ?_
  obtain ⟨g_6, hs⟩ := gdE hs
  refine m_copy C G hl.1 (kS1 hk1) (kS1 hk0) (lS1 hk1) (lS1 hk0) wd_502 g_6 hs (Nat.le_of_ble_eq_true rfl) (Nat.le_of_ble_eq_true rfl) dX10_copyFrom_52 (fun σ_6 H locs hs G => ?_)
  refine lv_aload_n hx hb dX10_copyFrom_55 rfl (lv_at hl 1 rfl) ?_
  refine gf_X10_15 C G hk1 (n' := (n1 + 2)) rfl dX10_copyFrom_56 ?_
  refine lv_iconst (v := 0) hx hb dX10_copyFrom_59 (by decide) ?_
  refine lv_aload_n hx hb dX10_copyFrom_60 rfl (lv_at hl 0 rfl) ?_
  refine gf_X10_15 C G hk0 (n' := (n0 + 2)) rfl dX10_copyFrom_61 ?_
  refine lv_iconst (v := 0) hx hb dX10_copyFrom_64 (by decide) ?_
  refine lv_bipush (v := 7) hx hb dX10_copyFrom_65 (by decide) ?_
  obtain ⟨g_7, hs⟩ := gdE hs
  refine m_copy C G hl.1 (kS2 hk1) (kS2 hk0) (lS2 hk1) (lS2 hk0) wd_502 g_7 hs (Nat.le_of_ble_eq_true rfl) (Nat.le_of_ble_eq_true rfl) dX10_copyFrom_67 (fun σ_7 H locs hs G => ?_)
  refine lv_aload_n hx hb dX10_copyFrom_70 rfl (lv_at hl 1 rfl) ?_
  refine gf_X10_18 C G hk1 (n' := (n1 + 3)) rfl dX10_copyFrom_71 ?_
  refine lv_iconst (v := 0) hx hb dX10_copyFrom_74 (by decide) ?_
  refine lv_aload_n hx hb dX10_copyFrom_75 rfl (lv_at hl 0 rfl) ?_
  refine gf_X10_18 C G hk0 (n' := (n0 + 3)) rfl dX10_copyFrom_76 ?_
  refine lv_iconst (v := 0) hx hb dX10_copyFrom_79 (by decide) ?_
  refine lv_bipush (v := 7) hx hb dX10_copyFrom_80 (by decide) ?_
  obtain ⟨g_8, hs⟩ := gdE hs
  refine m_copy C G hl.1 (kS3 hk1) (kS3 hk0) (lS3 hk1) (lS3 hk0) wd_502 g_8 hs (Nat.le_of_ble_eq_true rfl) (Nat.le_of_ble_eq_true rfl) dX10_copyFrom_82 (fun σ_8 H locs hs G => ?_)
  refine lv_aload_n hx hb dX10_copyFrom_85 rfl (lv_at hl 1 rfl) ?_
  refine gf_X10_21 C G hk1 (n' := (n1 + 4)) rfl dX10_copyFrom_86 ?_
  refine lv_iconst (v := 0) hx hb dX10_copyFrom_89 (by decide) ?_
  refine lv_aload_n hx hb dX10_copyFrom_90 rfl (lv_at hl 0 rfl) ?_
  refine gf_X10_21 C G hk0 (n' := (n0 + 4)) rfl dX10_copyFrom_91 ?_
  refine lv_iconst (v := 0) hx hb dX10_copyFrom_94 (by decide) ?_
  refine lv_iconst (v := 4) hx hb dX10_copyFrom_95 (by decide) ?_
  obtain ⟨g_9, hs⟩ := gdE hs
  refine m_copy C G hl.1 (kS4 hk1) (kS4 hk0) (lS4 hk1) (lS4 hk0) wd_502 g_9 hs (Nat.le_of_ble_eq_true rfl) (Nat.le_of_ble_eq_true rfl) dX10_copyFrom_96 (fun σ_9 H locs hs G => ?_)
  exact retV C G hs dX10_copyFrom_99
-- X5_take
def rmX5_take : Room := { frames := 2, cells := 0, slots := 0, locals := 51 }
def fX5_take (n2 : Nat) (σ : Sg) (x1 : Int32) (x3 : Int32) : Option Sg :=
  (if x1 < 0 then some σ else (if x1 < 2 then (if inb x1 2 then gk 10 (103 + 5 * x1.toNatClampNeg) (fun n_3 => bv (fX10_copyFrom n_3 n2 σ) (fun σ_4 => (if inb x1 2 then lt (st σ_4 102 x1.toNatClampNeg x3) (fun σ_5 => (if inb x1 2 then lt (st σ_5 100 x1.toNatClampNeg 1) (fun σ_6 => some σ_6) else none)) else none))) else none) else some σ))
set_option maxRecDepth 100000 in
set_option maxHeartbeats 4000000 in
theorem ctX5_take (l : Launch) {n2 : Nat} (hk2 : kd n2 = 10) {D : va_G} {cI cZ cO : ClassId} {b : Nat} {σ : Sg} {x1 : Int32} {x3 : Int32} {Rr : Sg} (hs : fX5_take n2 σ x1 x3 = some Rr) : MV l yX5_take cX5_take 4 rmX5_take [.ref (b + 99), .int x1, .ref (b + n2), .int x3] b D cI cZ cO σ Rr := by
  unfold fX5_take at hs
  refine metV (by decide +kernel) (Nat.le_of_ble_eq_true rfl) (fun p e s m below meth c ls C G hl => ?_)
  have C : Cx p s m _ meth c cX5_take RX5 4 none D cI cZ cO := C
  have hx := C.1
  have hb := C.2.1
  have hl : lv_has ls 4 [(0, .ref (b + 99)), (1, .int x1), (2, .ref (b + n2)), (3, .int x3)] := hl
  refine lv_iload_n hx hb dX5_take_0 rfl (lv_at hl 1 rfl) ?_
  refine lv_if_lt (tgt := 9) hx hb dX5_take_1 (by decide) (fun c_1 => ?_) (fun c_1 => ?_)
  · replace hs := ifT c_1 hs
    exact retV C G hs dX5_take_9
  · replace hs := ifF c_1 hs
    refine lv_iload_n hx hb dX5_take_4 rfl (lv_at hl 1 rfl) ?_
    refine lv_iconst (v := 2) hx hb dX5_take_5 (by decide) ?_
    refine lv_icmp_lt (tgt := 10) hx hb dX5_take_6 (by decide) (fun c_2 => ?_) (fun c_2 => ?_)
    · replace hs := ifT c_2 hs
      refine lv_aload_n hx hb dX5_take_10 rfl (lv_at hl 0 rfl) ?_
      refine gf_X5_17 C G kd_99 (n' := 101) rfl dX5_take_11 ?_
      refine lv_iload_n hx hb dX5_take_14 rfl (lv_at hl 1 rfl) ?_
      obtain ⟨g_3, hs⟩ := gdE hs
      obtain ⟨n_3, en_3, hk_3, hs⟩ := gkE hs
      refine m_aald16 C G kd_101 g_3 en_3.symm dX5_take_15 ?_
      refine lv_aload_n hx hb dX5_take_16 rfl (lv_at hl 2 rfl) ?_
      obtain ⟨σ_4, hc, hs⟩ := bvE hs
      refine callVV (ar := 1) (As := [.ref (b + n2)]) (rest := []) C G hl.1 (ctX10_copyFrom _ hk_3 hk2 hc) ⟨wd_862, wd_655, wd_656, wd_73, wd_657⟩ (by decide +kernel) rfl ⟨rfl, rfl⟩ ⟨Nat.le_of_ble_eq_true rfl, Nat.le_of_ble_eq_true rfl⟩ (kd_lt hk_3 (by decide)) (ent_10 b cI cZ cO _ hk_3) rfl (Nat.le_of_ble_eq_true rfl) ⟨Nat.le_of_ble_eq_true rfl, Nat.le_of_ble_eq_true rfl⟩ dX5_take_17 rfl (fun H locs G => ?_)
      refine lv_aload_n hx hb dX5_take_20 rfl (lv_at hl 0 rfl) ?_
      refine gf_X5_21 C G kd_99 (n' := 102) rfl dX5_take_21 ?_
      refine lv_iload_n hx hb dX5_take_24 rfl (lv_at hl 1 rfl) ?_
      refine lv_iload_n hx hb dX5_take_25 rfl (lv_at hl 3 rfl) ?_
      obtain ⟨g_5, hs⟩ := gdE hs
      refine m_iast C G kd_102 ln_102 g_5 hs dX5_take_26 (fun σ_5 H locs hs G => ?_)
      refine lv_aload_n hx hb dX5_take_27 rfl (lv_at hl 0 rfl) ?_
      refine gf_X5_9 C G kd_99 (n' := 100) rfl dX5_take_28 ?_
      refine lv_iload_n hx hb dX5_take_31 rfl (lv_at hl 1 rfl) ?_
      refine lv_iconst (v := 1) hx hb dX5_take_32 (by decide) ?_
      obtain ⟨g_6, hs⟩ := gdE hs
      refine m_zast C G kd_100 ln_100 g_6 (by decide) hs dX5_take_33 (fun σ_6 H locs hs G => ?_)
      exact retV C G hs dX5_take_34
    · replace hs := ifF c_2 hs
      exact retV C G hs dX5_take_9
-- X5_forget
def rmX5_forget : Room := { frames := 0, cells := 0, slots := 0, locals := 0 }
def fX5_forget_2b (kh : Sg → Int32 → Option Sg) (kx : Sg → Option Sg) (σ : Sg) (x1 : Int32) : Option Sg :=
  (if 2 ≤ x1 then kx σ else (if inb x1 2 then lt (st σ 100 x1.toNatClampNeg 0) (fun σ_2 => lt (x1 + 1) (fun x1_3 => kh σ_2 x1_3)) else none))
set_option maxRecDepth 100000 in
set_option maxHeartbeats 4000000 in
theorem wX5_forget_2b {p : Program} {l : Launch} {e : Env} {s : State} {m : MethodId} {args : Array Value} {below : List Frame} {meth : Method} {c : Code} {D : va_G} {cI cZ cO : ClassId} {b : Nat} (C : Cx p s m args meth c cX5_forget RX5 2 none D cI cZ cO) {Rr : Sg} {kh : Sg → Int32 → Option Sg} {kx : Sg → Option Sg} (hh : ∀ (σ : Sg) (x1 : Int32) (H : Heap) (locs : List Loc) (ls : Array Slot), kh σ x1 = some Rr → Gd b D cI cZ cO σ s.heap H locs → lv_has ls 2 [(0, .ref (b + 99)), (1, .int x1)] → W p l e rmX5_forget s m args below meth c H locs 0 0 (MQ below (QV b D cI cZ cO Rr) args s 0 0 (fun q => b ≤ q)) (F0 m 2 ls [])) (hxx : ∀ (σ : Sg) (H : Heap) (locs : List Loc) (ls : Array Slot), kx σ = some Rr → Gd b D cI cZ cO σ s.heap H locs → lv_has ls 2 [] → W p l e rmX5_forget s m args below meth c H locs 0 0 (MQ below (QV b D cI cZ cO Rr) args s 0 0 (fun q => b ≤ q)) (F0 m 20 ls [])) {σ : Sg} {x1 : Int32} {H : Heap} {locs : List Loc} {ls : Array Slot} (hs : fX5_forget_2b kh kx σ x1 = some Rr) (G : Gd b D cI cZ cO σ s.heap H locs) (hl : lv_has ls 2 [(0, .ref (b + 99)), (1, .int x1)]) : W p l e rmX5_forget s m args below meth c H locs 0 0 (MQ below (QV b D cI cZ cO Rr) args s 0 0 (fun q => b ≤ q)) (F0 m 2 ls []) := by
  have hx := C.1
  have hb := C.2.1
  unfold fX5_forget_2b at hs
  refine lv_iload_n hx hb dX5_forget_2 rfl (lv_at hl 1 rfl) ?_
  refine lv_iconst (v := 2) hx hb dX5_forget_3 (by decide) ?_
  refine lv_icmp_ge (tgt := 20) hx hb dX5_forget_4 (by decide) (fun c_1 => ?_) (fun c_1 => ?_)
  · replace hs := ifT c_1 hs
    exact hxx _ _ _ _ hs G (lv_sub hl [] rfl)
  · replace hs := ifF c_1 hs
    refine lv_aload_n hx hb dX5_forget_7 rfl (lv_at hl 0 rfl) ?_
    refine gf_X5_9 C G kd_99 (n' := 100) rfl dX5_forget_8 ?_
    refine lv_iload_n hx hb dX5_forget_11 rfl (lv_at hl 1 rfl) ?_
    refine lv_iconst (v := 0) hx hb dX5_forget_12 (by decide) ?_
    obtain ⟨g_2, hs⟩ := gdE hs
    refine m_zast C G kd_100 ln_100 g_2 (by decide) hs dX5_forget_13 (fun σ_2 H locs hs G => ?_)
    obtain ⟨x1_3, e_3, hs⟩ := ltE hs
    refine lv_iinc (v := x1_3) (lv' := [(1, .int x1_3), (0, .ref (b + 99))]) hx hb dX5_forget_14 hl (k := 1) rfl (by rw [e_3]; rfl) (by decide) rfl (fun ls hl => ?_)
    refine lv_goto (tgt := 2) hx hb dX5_forget_17 (by decide) ?_
    exact hh _ _ _ _ _ hs G (lv_sub hl [1, 0] rfl)
def fX5_forget_2 : Nat → (Sg → Option Sg) → Sg → Int32 → Option Sg
  | 0, _, _, _ => none
  | fu + 1, kx, σ, x1 => fX5_forget_2b (fX5_forget_2 fu kx) kx σ x1
theorem fX5_forget_2_s (fu : Nat) (kx : Sg → Option Sg) (σ : Sg) (x1 : Int32) : fX5_forget_2 (fu + 1) kx σ x1 = fX5_forget_2b (fX5_forget_2 fu kx) kx σ x1 := by rw [fX5_forget_2]
theorem wX5_forget_2 {p : Program} {l : Launch} {e : Env} {s : State} {m : MethodId} {args : Array Value} {below : List Frame} {meth : Method} {c : Code} {D : va_G} {cI cZ cO : ClassId} {b : Nat} (C : Cx p s m args meth c cX5_forget RX5 2 none D cI cZ cO) {Rr : Sg} {kx : Sg → Option Sg} (hxx : ∀ (σ : Sg) (H : Heap) (locs : List Loc) (ls : Array Slot), kx σ = some Rr → Gd b D cI cZ cO σ s.heap H locs → lv_has ls 2 [] → W p l e rmX5_forget s m args below meth c H locs 0 0 (MQ below (QV b D cI cZ cO Rr) args s 0 0 (fun q => b ≤ q)) (F0 m 20 ls [])) : ∀ (fu : Nat) (σ : Sg) (x1 : Int32) (H : Heap) (locs : List Loc) (ls : Array Slot), fX5_forget_2 fu kx σ x1 = some Rr → Gd b D cI cZ cO σ s.heap H locs → lv_has ls 2 [(0, .ref (b + 99)), (1, .int x1)] → W p l e rmX5_forget s m args below meth c H locs 0 0 (MQ below (QV b D cI cZ cO Rr) args s 0 0 (fun q => b ≤ q)) (F0 m 2 ls []) := by
  intro fu
  induction fu with
  | zero => intro σ x1 H locs ls hs; cases hs
  | succ fu ih =>
    intro σ x1 H locs ls hs G hl
    exact wX5_forget_2b C (fun σ x1 H locs ls hs G hl => ih σ x1 H locs ls hs G hl) hxx hs G hl
def fX5_forget (σ : Sg) : Option Sg :=
  fX5_forget_2 FU (fun σ_4 => some σ_4) σ 0
set_option maxRecDepth 100000 in
set_option maxHeartbeats 4000000 in
theorem ctX5_forget (l : Launch) {D : va_G} {cI cZ cO : ClassId} {b : Nat} {σ : Sg} {Rr : Sg} (hs : fX5_forget σ = some Rr) : MV l yX5_forget cX5_forget 2 rmX5_forget [.ref (b + 99)] b D cI cZ cO σ Rr := by
  unfold fX5_forget at hs
  refine metV (by decide +kernel) (Nat.le_of_ble_eq_true rfl) (fun p e s m below meth c ls C G hl => ?_)
  have C : Cx p s m _ meth c cX5_forget RX5 2 none D cI cZ cO := C
  have hx := C.1
  have hb := C.2.1
  have hl : lv_has ls 2 [(0, .ref (b + 99))] := hl
  refine lv_iconst (v := 0) hx hb dX5_forget_0 (by decide) ?_
  refine lv_istore_n (lv' := [(1, .int 0), (0, .ref (b + 99))]) hx hb dX5_forget_1 rfl hl (by decide) rfl (fun ls hl => ?_)
  refine wX5_forget_2 C (fun σ_4 H locs ls hs G hl => ?_) FU _ _ _ _ _ hs G (lv_sub hl [1, 0] rfl)
  exact retV C G hs dX5_forget_20
-- X6_tryAll
def rmX6_tryAll : Room := { frames := 4, cells := 0, slots := 0, locals := 101 }
def fX6_tryAll_69 (kh : Sg → Int32 → Int32 → Option Sg) (kx : Sg → Int32 → Option Sg) (σ : Sg) (x2 : Int32) (x3 : Int32) (y0 : Int32) (y1 : Int32) : Option Sg :=
  (if inb y1 49 then lt (st σ 123 y1.toNatClampNeg y0) (fun σ_7 => lt (x3 + 1) (fun x3_8 => kh σ_7 x2 x3_8)) else none)
set_option maxRecDepth 100000 in
set_option maxHeartbeats 4000000 in
theorem wX6_tryAll_69 {p : Program} {l : Launch} {e : Env} {s : State} {m : MethodId} {args : Array Value} {below : List Frame} {meth : Method} {c : Code} {D : va_G} {cI cZ cO : ClassId} {b : Nat} (C : Cx p s m args meth c cX6_tryAll RX6 4 none D cI cZ cO) {Rr : Sg} {kh : Sg → Int32 → Int32 → Option Sg} {kx : Sg → Int32 → Option Sg} (hh : ∀ (σ : Sg) (x2 : Int32) (x3 : Int32) (H : Heap) (locs : List Loc) (ls : Array Slot), kh σ x2 x3 = some Rr → Gd b D cI cZ cO σ s.heap H locs → lv_has ls 4 [(0, .ref (b + 120)), (1, .ref (b + 3)), (2, .int x2), (3, .int x3)] → W p l e rmX6_tryAll s m args below meth c H locs 0 0 (MQ below (QV b D cI cZ cO Rr) args s 0 0 (fun q => b ≤ q)) (F0 m 27 ls [])) (hxx : ∀ (σ : Sg) (x2 : Int32) (H : Heap) (locs : List Loc) (ls : Array Slot), kx σ x2 = some Rr → Gd b D cI cZ cO σ s.heap H locs → lv_has ls 4 [(0, .ref (b + 120)), (1, .ref (b + 3)), (2, .int x2)] → W p l e rmX6_tryAll s m args below meth c H locs 0 0 (MQ below (QV b D cI cZ cO Rr) args s 0 0 (fun q => b ≤ q)) (F0 m 76 ls [])) {σ : Sg} {x2 : Int32} {x3 : Int32} {y0 : Int32} {y1 : Int32} {H : Heap} {locs : List Loc} {ls : Array Slot} (hs : fX6_tryAll_69 kh kx σ x2 x3 y0 y1 = some Rr) (G : Gd b D cI cZ cO σ s.heap H locs) (hl : lv_has ls 4 [(0, .ref (b + 120)), (1, .ref (b + 3)), (2, .int x2), (3, .int x3)]) : W p l e rmX6_tryAll s m args below meth c H locs 0 0 (MQ below (QV b D cI cZ cO Rr) args s 0 0 (fun q => b ≤ q)) (F0 m 69 ls [.int y0, .int y1, .ref (b + 123)]) := by
  have hx := C.1
  have hb := C.2.1
  unfold fX6_tryAll_69 at hs
  obtain ⟨g_7, hs⟩ := gdE hs
  refine m_iast C G kd_123 ln_123 g_7 hs dX6_tryAll_69 (fun σ_7 H locs hs G => ?_)
  obtain ⟨x3_8, e_8, hs⟩ := ltE hs
  refine lv_iinc (v := x3_8) (lv' := [(3, .int x3_8), (0, .ref (b + 120)), (1, .ref (b + 3)), (2, .int x2)]) hx hb dX6_tryAll_70 hl (k := 3) rfl (by rw [e_8]; rfl) (by decide) rfl (fun ls hl => ?_)
  refine lv_goto (tgt := 27) hx hb dX6_tryAll_73 (by decide) ?_
  exact hh _ _ _ _ _ _ hs G (lv_sub hl [1, 2, 3, 0] rfl)
def fX6_tryAll_27b (kh : Sg → Int32 → Int32 → Option Sg) (kx : Sg → Int32 → Option Sg) (σ : Sg) (x2 : Int32) (x3 : Int32) : Option Sg :=
  (if (σ 120 4) ≤ x3 then kx σ x2 else bi (fX2_canAnswer σ x2 x3) (fun r_5 σ_5 => (if r_5 = 0 then fX6_tryAll_69 kh kx σ_5 x2 x3 (-1) ((x2 * 7) + x3) else (if inb x2 7 then bi (fX2_leftBy σ_5 x3 (σ_5 122 x2.toNatClampNeg)) (fun r_10 σ_10 => fX6_tryAll_69 kh kx σ_10 x2 x3 r_10 ((x2 * 7) + x3)) else none))))
set_option maxRecDepth 100000 in
set_option maxHeartbeats 4000000 in
theorem wX6_tryAll_27b {p : Program} {l : Launch} {e : Env} {s : State} {m : MethodId} {args : Array Value} {below : List Frame} {meth : Method} {c : Code} {D : va_G} {cI cZ cO : ClassId} {b : Nat} (C : Cx p s m args meth c cX6_tryAll RX6 4 none D cI cZ cO) {Rr : Sg} {kh : Sg → Int32 → Int32 → Option Sg} {kx : Sg → Int32 → Option Sg} (hh : ∀ (σ : Sg) (x2 : Int32) (x3 : Int32) (H : Heap) (locs : List Loc) (ls : Array Slot), kh σ x2 x3 = some Rr → Gd b D cI cZ cO σ s.heap H locs → lv_has ls 4 [(0, .ref (b + 120)), (1, .ref (b + 3)), (2, .int x2), (3, .int x3)] → W p l e rmX6_tryAll s m args below meth c H locs 0 0 (MQ below (QV b D cI cZ cO Rr) args s 0 0 (fun q => b ≤ q)) (F0 m 27 ls [])) (hxx : ∀ (σ : Sg) (x2 : Int32) (H : Heap) (locs : List Loc) (ls : Array Slot), kx σ x2 = some Rr → Gd b D cI cZ cO σ s.heap H locs → lv_has ls 4 [(0, .ref (b + 120)), (1, .ref (b + 3)), (2, .int x2)] → W p l e rmX6_tryAll s m args below meth c H locs 0 0 (MQ below (QV b D cI cZ cO Rr) args s 0 0 (fun q => b ≤ q)) (F0 m 76 ls [])) {σ : Sg} {x2 : Int32} {x3 : Int32} {H : Heap} {locs : List Loc} {ls : Array Slot} (hs : fX6_tryAll_27b kh kx σ x2 x3 = some Rr) (G : Gd b D cI cZ cO σ s.heap H locs) (hl : lv_has ls 4 [(0, .ref (b + 120)), (1, .ref (b + 3)), (2, .int x2), (3, .int x3)]) : W p l e rmX6_tryAll s m args below meth c H locs 0 0 (MQ below (QV b D cI cZ cO Rr) args s 0 0 (fun q => b ≤ q)) (F0 m 27 ls []) := by
  have hx := C.1
  have hb := C.2.1
  unfold fX6_tryAll_27b at hs
  refine lv_iload_n hx hb dX6_tryAll_27 rfl (lv_at hl 3 rfl) ?_
  refine lv_aload_n hx hb dX6_tryAll_28 rfl (lv_at hl 0 rfl) ?_
  refine gf_X6_36 C G kd_120 dX6_tryAll_29 ?_
  refine lv_icmp_ge (tgt := 76) hx hb dX6_tryAll_32 (by decide) (fun c_4 => ?_) (fun c_4 => ?_)
  · replace hs := ifT c_4 hs
    exact hxx _ _ _ _ _ hs G (lv_sub hl [0, 1, 2] rfl)
  · replace hs := ifF c_4 hs
    refine lv_aload_n hx hb dX6_tryAll_35 rfl (lv_at hl 0 rfl) ?_
    refine gf_X6_18 C G kd_120 (n' := 123) rfl dX6_tryAll_36 ?_
    refine lv_iload_n hx hb dX6_tryAll_39 rfl (lv_at hl 2 rfl) ?_
    refine lv_bipush (v := 7) hx hb dX6_tryAll_40 (by decide) ?_
    refine lv_imul hx hb dX6_tryAll_42 ?_
    refine lv_iload_n hx hb dX6_tryAll_43 rfl (lv_at hl 3 rfl) ?_
    refine lv_iadd hx hb dX6_tryAll_44 ?_
    refine lv_aload_n hx hb dX6_tryAll_45 rfl (lv_at hl 1 rfl) ?_
    refine lv_iload_n hx hb dX6_tryAll_46 rfl (lv_at hl 2 rfl) ?_
    refine lv_iload_n hx hb dX6_tryAll_47 rfl (lv_at hl 3 rfl) ?_
    obtain ⟨r_5, σ_5, hc, hs⟩ := biE hs
    refine callVI (ar := 2) (As := [.int x2, .int x3]) (rest := [.int ((x2 * 7) + x3), .ref (b + 123)]) C G hl.1 (ctX2_canAnswer _  hc) ⟨wd_768, wd_667, wd_668, wd_71, wd_669⟩ (by decide +kernel) rfl ⟨rfl, rfl⟩ ⟨Nat.le_of_ble_eq_true rfl, Nat.le_of_ble_eq_true rfl⟩ (kd_lt kd_3 (by decide)) (ent_2 b cI cZ cO _ kd_3) rfl (Nat.le_of_ble_eq_true rfl) ⟨Nat.le_of_ble_eq_true rfl, Nat.le_of_ble_eq_true rfl⟩ dX6_tryAll_48 rfl (fun H locs G => ?_)
    refine lv_if_eq (tgt := 68) hx hb dX6_tryAll_51 (by decide) (fun c_6 => ?_) (fun c_6 => ?_)
    · replace hs := ifT c_6 hs
      refine lv_iconst (v := (-1)) hx hb dX6_tryAll_68 (by decide) ?_
      exact wX6_tryAll_69 C  hh hxx hs G (lv_sub hl [0, 1, 2, 3] rfl)
    · replace hs := ifF c_6 hs
      refine lv_aload_n hx hb dX6_tryAll_54 rfl (lv_at hl 1 rfl) ?_
      refine lv_iload_n hx hb dX6_tryAll_55 rfl (lv_at hl 3 rfl) ?_
      refine lv_aload_n hx hb dX6_tryAll_56 rfl (lv_at hl 0 rfl) ?_
      refine gf_X6_15 C G kd_120 (n' := 122) rfl dX6_tryAll_57 ?_
      refine lv_iload_n hx hb dX6_tryAll_60 rfl (lv_at hl 2 rfl) ?_
      obtain ⟨g_9, hs⟩ := gdE hs
      refine m_iald C G kd_122 ln_122 g_9 dX6_tryAll_61 ?_
      obtain ⟨r_10, σ_10, hc, hs⟩ := biE hs
      refine callVI (ar := 2) (As := [.int x3, .int (σ_5 122 x2.toNatClampNeg)]) (rest := [.int ((x2 * 7) + x3), .ref (b + 123)]) C G hl.1 (ctX2_leftBy _  hc) ⟨wd_769, wd_599, wd_600, wd_71, wd_601⟩ (by decide +kernel) rfl ⟨rfl, rfl⟩ ⟨Nat.le_of_ble_eq_true rfl, Nat.le_of_ble_eq_true rfl⟩ (kd_lt kd_3 (by decide)) (ent_2 b cI cZ cO _ kd_3) rfl (Nat.le_of_ble_eq_true rfl) ⟨Nat.le_of_ble_eq_true rfl, Nat.le_of_ble_eq_true rfl⟩ dX6_tryAll_62 rfl (fun H locs G => ?_)
      refine lv_goto (tgt := 69) hx hb dX6_tryAll_65 (by decide) ?_
      exact wX6_tryAll_69 C  hh hxx hs G (lv_sub hl [0, 1, 2, 3] rfl)
def fX6_tryAll_27 : Nat → (Sg → Int32 → Option Sg) → Sg → Int32 → Int32 → Option Sg
  | 0, _, _, _, _ => none
  | fu + 1, kx, σ, x2, x3 => fX6_tryAll_27b (fX6_tryAll_27 fu kx) kx σ x2 x3
theorem fX6_tryAll_27_s (fu : Nat) (kx : Sg → Int32 → Option Sg) (σ : Sg) (x2 : Int32) (x3 : Int32) : fX6_tryAll_27 (fu + 1) kx σ x2 x3 = fX6_tryAll_27b (fX6_tryAll_27 fu kx) kx σ x2 x3 := by rw [fX6_tryAll_27]
theorem wX6_tryAll_27 {p : Program} {l : Launch} {e : Env} {s : State} {m : MethodId} {args : Array Value} {below : List Frame} {meth : Method} {c : Code} {D : va_G} {cI cZ cO : ClassId} {b : Nat} (C : Cx p s m args meth c cX6_tryAll RX6 4 none D cI cZ cO) {Rr : Sg} {kx : Sg → Int32 → Option Sg} (hxx : ∀ (σ : Sg) (x2 : Int32) (H : Heap) (locs : List Loc) (ls : Array Slot), kx σ x2 = some Rr → Gd b D cI cZ cO σ s.heap H locs → lv_has ls 4 [(0, .ref (b + 120)), (1, .ref (b + 3)), (2, .int x2)] → W p l e rmX6_tryAll s m args below meth c H locs 0 0 (MQ below (QV b D cI cZ cO Rr) args s 0 0 (fun q => b ≤ q)) (F0 m 76 ls [])) : ∀ (fu : Nat) (σ : Sg) (x2 : Int32) (x3 : Int32) (H : Heap) (locs : List Loc) (ls : Array Slot), fX6_tryAll_27 fu kx σ x2 x3 = some Rr → Gd b D cI cZ cO σ s.heap H locs → lv_has ls 4 [(0, .ref (b + 120)), (1, .ref (b + 3)), (2, .int x2), (3, .int x3)] → W p l e rmX6_tryAll s m args below meth c H locs 0 0 (MQ below (QV b D cI cZ cO Rr) args s 0 0 (fun q => b ≤ q)) (F0 m 27 ls []) := by
  intro fu
  induction fu with
  | zero => intro σ x2 x3 H locs ls hs; cases hs
  | succ fu ih =>
    intro σ x2 x3 H locs ls hs G hl
    exact wX6_tryAll_27b C (fun σ x2 x3 H locs ls hs G hl => ih σ x2 x3 H locs ls hs G hl) hxx hs G hl
def fX6_tryAll_2b (kh : Sg → Int32 → Option Sg) (kx : Sg → Option Sg) (σ : Sg) (x2 : Int32) : Option Sg :=
  (if (σ 120 4) ≤ x2 then kx σ else (if inb x2 7 then (if inb x2 7 then lt (st σ 122 x2.toNatClampNeg (σ 12 x2.toNatClampNeg)) (fun σ_3 => fX6_tryAll_27 FU (fun σ_11 x2_11 => lt (x2_11 + 1) (fun x2_12 => kh σ_11 x2_12)) σ_3 x2 0) else none) else none))
set_option maxRecDepth 100000 in
set_option maxHeartbeats 4000000 in
theorem wX6_tryAll_2b {p : Program} {l : Launch} {e : Env} {s : State} {m : MethodId} {args : Array Value} {below : List Frame} {meth : Method} {c : Code} {D : va_G} {cI cZ cO : ClassId} {b : Nat} (C : Cx p s m args meth c cX6_tryAll RX6 4 none D cI cZ cO) {Rr : Sg} {kh : Sg → Int32 → Option Sg} {kx : Sg → Option Sg} (hh : ∀ (σ : Sg) (x2 : Int32) (H : Heap) (locs : List Loc) (ls : Array Slot), kh σ x2 = some Rr → Gd b D cI cZ cO σ s.heap H locs → lv_has ls 4 [(0, .ref (b + 120)), (1, .ref (b + 3)), (2, .int x2)] → W p l e rmX6_tryAll s m args below meth c H locs 0 0 (MQ below (QV b D cI cZ cO Rr) args s 0 0 (fun q => b ≤ q)) (F0 m 2 ls [])) (hxx : ∀ (σ : Sg) (H : Heap) (locs : List Loc) (ls : Array Slot), kx σ = some Rr → Gd b D cI cZ cO σ s.heap H locs → lv_has ls 4 [] → W p l e rmX6_tryAll s m args below meth c H locs 0 0 (MQ below (QV b D cI cZ cO Rr) args s 0 0 (fun q => b ≤ q)) (F0 m 82 ls [])) {σ : Sg} {x2 : Int32} {H : Heap} {locs : List Loc} {ls : Array Slot} (hs : fX6_tryAll_2b kh kx σ x2 = some Rr) (G : Gd b D cI cZ cO σ s.heap H locs) (hl : lv_has ls 4 [(0, .ref (b + 120)), (1, .ref (b + 3)), (2, .int x2)]) : W p l e rmX6_tryAll s m args below meth c H locs 0 0 (MQ below (QV b D cI cZ cO Rr) args s 0 0 (fun q => b ≤ q)) (F0 m 2 ls []) := by
  have hx := C.1
  have hb := C.2.1
  unfold fX6_tryAll_2b at hs
  refine lv_iload_n hx hb dX6_tryAll_2 rfl (lv_at hl 2 rfl) ?_
  refine lv_aload_n hx hb dX6_tryAll_3 rfl (lv_at hl 0 rfl) ?_
  refine gf_X6_36 C G kd_120 dX6_tryAll_4 ?_
  refine lv_icmp_ge (tgt := 82) hx hb dX6_tryAll_7 (by decide) (fun c_1 => ?_) (fun c_1 => ?_)
  · replace hs := ifT c_1 hs
    exact hxx _ _ _ _ hs G (lv_sub hl [] rfl)
  · replace hs := ifF c_1 hs
    refine lv_aload_n hx hb dX6_tryAll_10 rfl (lv_at hl 0 rfl) ?_
    refine gf_X6_15 C G kd_120 (n' := 122) rfl dX6_tryAll_11 ?_
    refine lv_iload_n hx hb dX6_tryAll_14 rfl (lv_at hl 2 rfl) ?_
    refine lv_aload_n hx hb dX6_tryAll_15 rfl (lv_at hl 1 rfl) ?_
    refine gf_X6_48 C G kd_3 (n' := 11) rfl dX6_tryAll_16 ?_
    refine gf_X6_52 C G kd_11 (n' := 12) rfl dX6_tryAll_19 ?_
    refine lv_iload_n hx hb dX6_tryAll_22 rfl (lv_at hl 2 rfl) ?_
    obtain ⟨g_2, hs⟩ := gdE hs
    refine m_iald C G kd_12 ln_12 g_2 dX6_tryAll_23 ?_
    obtain ⟨g_3, hs⟩ := gdE hs
    refine m_iast C G kd_122 ln_122 g_3 hs dX6_tryAll_24 (fun σ_3 H locs hs G => ?_)
    refine lv_iconst (v := 0) hx hb dX6_tryAll_25 (by decide) ?_
    refine lv_istore_n (lv' := [(3, .int 0), (0, .ref (b + 120)), (1, .ref (b + 3)), (2, .int x2)]) hx hb dX6_tryAll_26 rfl hl (by decide) rfl (fun ls hl => ?_)
    refine wX6_tryAll_27 C (fun σ_11 x2_11 H locs ls hs G hl => ?_) FU _ _ _ _ _ _ hs G (lv_sub hl [1, 2, 3, 0] rfl)
    obtain ⟨x2_12, e_12, hs⟩ := ltE hs
    refine lv_iinc (v := x2_12) (lv' := [(2, .int x2_12), (0, .ref (b + 120)), (1, .ref (b + 3))]) hx hb dX6_tryAll_76 hl (k := 2) rfl (by rw [e_12]; rfl) (by decide) rfl (fun ls hl => ?_)
    refine lv_goto (tgt := 2) hx hb dX6_tryAll_79 (by decide) ?_
    exact hh _ _ _ _ _ hs G (lv_sub hl [1, 2, 0] rfl)
def fX6_tryAll_2 : Nat → (Sg → Option Sg) → Sg → Int32 → Option Sg
  | 0, _, _, _ => none
  | fu + 1, kx, σ, x2 => fX6_tryAll_2b (fX6_tryAll_2 fu kx) kx σ x2
theorem fX6_tryAll_2_s (fu : Nat) (kx : Sg → Option Sg) (σ : Sg) (x2 : Int32) : fX6_tryAll_2 (fu + 1) kx σ x2 = fX6_tryAll_2b (fX6_tryAll_2 fu kx) kx σ x2 := by rw [fX6_tryAll_2]
theorem wX6_tryAll_2 {p : Program} {l : Launch} {e : Env} {s : State} {m : MethodId} {args : Array Value} {below : List Frame} {meth : Method} {c : Code} {D : va_G} {cI cZ cO : ClassId} {b : Nat} (C : Cx p s m args meth c cX6_tryAll RX6 4 none D cI cZ cO) {Rr : Sg} {kx : Sg → Option Sg} (hxx : ∀ (σ : Sg) (H : Heap) (locs : List Loc) (ls : Array Slot), kx σ = some Rr → Gd b D cI cZ cO σ s.heap H locs → lv_has ls 4 [] → W p l e rmX6_tryAll s m args below meth c H locs 0 0 (MQ below (QV b D cI cZ cO Rr) args s 0 0 (fun q => b ≤ q)) (F0 m 82 ls [])) : ∀ (fu : Nat) (σ : Sg) (x2 : Int32) (H : Heap) (locs : List Loc) (ls : Array Slot), fX6_tryAll_2 fu kx σ x2 = some Rr → Gd b D cI cZ cO σ s.heap H locs → lv_has ls 4 [(0, .ref (b + 120)), (1, .ref (b + 3)), (2, .int x2)] → W p l e rmX6_tryAll s m args below meth c H locs 0 0 (MQ below (QV b D cI cZ cO Rr) args s 0 0 (fun q => b ≤ q)) (F0 m 2 ls []) := by
  intro fu
  induction fu with
  | zero => intro σ x2 H locs ls hs; cases hs
  | succ fu ih =>
    intro σ x2 H locs ls hs G hl
    exact wX6_tryAll_2b C (fun σ x2 H locs ls hs G hl => ih σ x2 H locs ls hs G hl) hxx hs G hl
def fX6_tryAll (σ : Sg) : Option Sg :=
  fX6_tryAll_2 FU (fun σ_13 => some σ_13) σ 0
set_option maxRecDepth 100000 in
set_option maxHeartbeats 4000000 in
theorem ctX6_tryAll (l : Launch) {D : va_G} {cI cZ cO : ClassId} {b : Nat} {σ : Sg} {Rr : Sg} (hs : fX6_tryAll σ = some Rr) : MV l yX6_tryAll cX6_tryAll 4 rmX6_tryAll [.ref (b + 120), .ref (b + 3)] b D cI cZ cO σ Rr := by
  unfold fX6_tryAll at hs
  refine metV (by decide +kernel) (Nat.le_of_ble_eq_true rfl) (fun p e s m below meth c ls C G hl => ?_)
  have C : Cx p s m _ meth c cX6_tryAll RX6 4 none D cI cZ cO := C
  have hx := C.1
  have hb := C.2.1
  have hl : lv_has ls 4 [(0, .ref (b + 120)), (1, .ref (b + 3))] := hl
  refine lv_iconst (v := 0) hx hb dX6_tryAll_0 (by decide) ?_
  refine lv_istore_n (lv' := [(2, .int 0), (0, .ref (b + 120)), (1, .ref (b + 3))]) hx hb dX6_tryAll_1 rfl hl (by decide) rfl (fun ls hl => ?_)
  refine wX6_tryAll_2 C (fun σ_13 H locs ls hs G hl => ?_) FU _ _ _ _ _ hs G (lv_sub hl [1, 2, 0] rfl)
  exact retV C G hs dX6_tryAll_82
-- X6_mayGo
def rmX6_mayGo : Room := { frames := 0, cells := 0, slots := 0, locals := 0 }
def fX6_mayGo_27 (σ : Sg) : Option (Int32 × Sg) :=
  some (0, σ)
set_option maxRecDepth 100000 in
set_option maxHeartbeats 4000000 in
theorem wX6_mayGo_27 {p : Program} {l : Launch} {e : Env} {s : State} {m : MethodId} {args : Array Value} {below : List Frame} {meth : Method} {c : Code} {D : va_G} {cI cZ cO : ClassId} {b : Nat} (C : Cx p s m args meth c cX6_mayGo RX6 4 (some .boolean) D cI cZ cO) {Rr : (Int32 × Sg)} {σ : Sg} {H : Heap} {locs : List Loc} {ls : Array Slot} (hs : fX6_mayGo_27 σ = some Rr) (G : Gd b D cI cZ cO σ s.heap H locs) (hl : lv_has ls 4 []) : W p l e rmX6_mayGo s m args below meth c H locs 0 0 (MQ below (QI b D cI cZ cO Rr) args s 0 0 (fun q => b ≤ q)) (F0 m 27 ls []) := by
  have hx := C.1
  have hb := C.2.1
  unfold fX6_mayGo_27 at hs
  refine lv_iconst (v := 0) hx hb dX6_mayGo_27 (by decide) ?_
  exact retZ C G (by decide) hs dX6_mayGo_28
def fX6_mayGo (σ : Sg) (x1 : Int32) (x2 : Int32) (x3 : Int32) : Option (Int32 × Sg) :=
  (if ((x3 >>> (x2 &&& 31)) &&& 1) = 0 then (if inb ((x1 * 7) + x2) 49 then (if (σ 123 ((x1 * 7) + x2).toNatClampNeg) = (-1) then fX6_mayGo_27 σ else some (1, σ)) else none) else fX6_mayGo_27 σ)
set_option maxRecDepth 100000 in
set_option maxHeartbeats 4000000 in
theorem ctX6_mayGo (l : Launch) {D : va_G} {cI cZ cO : ClassId} {b : Nat} {σ : Sg} {x1 : Int32} {x2 : Int32} {x3 : Int32} {Rr : (Int32 × Sg)} (hs : fX6_mayGo σ x1 x2 x3 = some Rr) : MI l yX6_mayGo cX6_mayGo 4 (some .boolean) rmX6_mayGo [.ref (b + 120), .int x1, .int x2, .int x3] b D cI cZ cO σ Rr := by
  unfold fX6_mayGo at hs
  refine metI (by decide +kernel) (Nat.le_of_ble_eq_true rfl) (fun p e s m below meth c ls C G hl => ?_)
  have C : Cx p s m _ meth c cX6_mayGo RX6 4 (some .boolean) D cI cZ cO := C
  have hx := C.1
  have hb := C.2.1
  have hl : lv_has ls 4 [(0, .ref (b + 120)), (1, .int x1), (2, .int x2), (3, .int x3)] := hl
  refine lv_iload_n hx hb dX6_mayGo_0 rfl (lv_at hl 3 rfl) ?_
  refine lv_iload_n hx hb dX6_mayGo_1 rfl (lv_at hl 2 rfl) ?_
  refine lv_ishr hx hb dX6_mayGo_2 ?_
  refine lv_iconst (v := 1) hx hb dX6_mayGo_3 (by decide) ?_
  refine lv_iand hx hb dX6_mayGo_4 ?_
  refine lv_if_ne (tgt := 27) hx hb dX6_mayGo_5 (by decide) (fun c_1 => ?_) (fun c_1 => ?_)
  · replace hs := ifF c_1 hs
    exact wX6_mayGo_27 C   hs G (lv_sub hl [] rfl)
  · replace hs := ifT c_1 hs
    refine lv_aload_n hx hb dX6_mayGo_8 rfl (lv_at hl 0 rfl) ?_
    refine gf_X6_18 C G kd_120 (n' := 123) rfl dX6_mayGo_9 ?_
    refine lv_iload_n hx hb dX6_mayGo_12 rfl (lv_at hl 1 rfl) ?_
    refine lv_bipush (v := 7) hx hb dX6_mayGo_13 (by decide) ?_
    refine lv_imul hx hb dX6_mayGo_15 ?_
    refine lv_iload_n hx hb dX6_mayGo_16 rfl (lv_at hl 2 rfl) ?_
    refine lv_iadd hx hb dX6_mayGo_17 ?_
    obtain ⟨g_2, hs⟩ := gdE hs
    refine m_iald C G kd_123 ln_123 g_2 dX6_mayGo_18 ?_
    refine lv_iconst (v := (-1)) hx hb dX6_mayGo_19 (by decide) ?_
    refine lv_icmp_eq (tgt := 27) hx hb dX6_mayGo_20 (by decide) (fun c_3 => ?_) (fun c_3 => ?_)
    · replace hs := ifT c_3 hs
      exact wX6_mayGo_27 C   hs G (lv_sub hl [] rfl)
    · replace hs := ifF c_3 hs
      refine lv_iconst (v := 1) hx hb dX6_mayGo_23 (by decide) ?_
      refine lv_goto (tgt := 28) hx hb dX6_mayGo_24 (by decide) ?_
      exact retZ C G (by decide) hs dX6_mayGo_28
-- X6_leftWith
def rmX6_leftWith : Room := { frames := 0, cells := 0, slots := 0, locals := 0 }
def fX6_leftWith (σ : Sg) (x1 : Int32) (x2 : Int32) (x3 : Int32) : Option (Int32 × Sg) :=
  (if inb ((x1 * 7) + x2) 49 then (if inb (((x1 + 1) * 128) + (x3 ||| ((1 : Int32) <<< (x2 &&& 31)))) 1024 then some (((σ 123 ((x1 * 7) + x2).toNatClampNeg) + (σ 124 (((x1 + 1) * 128) + (x3 ||| ((1 : Int32) <<< (x2 &&& 31)))).toNatClampNeg)), σ) else none) else none)
set_option maxRecDepth 100000 in
set_option maxHeartbeats 4000000 in
theorem ctX6_leftWith (l : Launch) {D : va_G} {cI cZ cO : ClassId} {b : Nat} {σ : Sg} {x1 : Int32} {x2 : Int32} {x3 : Int32} {Rr : (Int32 × Sg)} (hs : fX6_leftWith σ x1 x2 x3 = some Rr) : MI l yX6_leftWith cX6_leftWith 4 (some .int) rmX6_leftWith [.ref (b + 120), .int x1, .int x2, .int x3] b D cI cZ cO σ Rr := by
  unfold fX6_leftWith at hs
  refine metI (by decide +kernel) (Nat.le_of_ble_eq_true rfl) (fun p e s m below meth c ls C G hl => ?_)
  have C : Cx p s m _ meth c cX6_leftWith RX6 4 (some .int) D cI cZ cO := C
  have hx := C.1
  have hb := C.2.1
  have hl : lv_has ls 4 [(0, .ref (b + 120)), (1, .int x1), (2, .int x2), (3, .int x3)] := hl
  refine lv_aload_n hx hb dX6_leftWith_0 rfl (lv_at hl 0 rfl) ?_
  refine gf_X6_18 C G kd_120 (n' := 123) rfl dX6_leftWith_1 ?_
  refine lv_iload_n hx hb dX6_leftWith_4 rfl (lv_at hl 1 rfl) ?_
  refine lv_bipush (v := 7) hx hb dX6_leftWith_5 (by decide) ?_
  refine lv_imul hx hb dX6_leftWith_7 ?_
  refine lv_iload_n hx hb dX6_leftWith_8 rfl (lv_at hl 2 rfl) ?_
  refine lv_iadd hx hb dX6_leftWith_9 ?_
  obtain ⟨g_1, hs⟩ := gdE hs
  refine m_iald C G kd_123 ln_123 g_1 dX6_leftWith_10 ?_
  refine lv_aload_n hx hb dX6_leftWith_11 rfl (lv_at hl 0 rfl) ?_
  refine gf_X6_21 C G kd_120 (n' := 124) rfl dX6_leftWith_12 ?_
  refine lv_iload_n hx hb dX6_leftWith_15 rfl (lv_at hl 1 rfl) ?_
  refine lv_iconst (v := 1) hx hb dX6_leftWith_16 (by decide) ?_
  refine lv_iadd hx hb dX6_leftWith_17 ?_
  refine lv_sipush (v := 128) hx hb dX6_leftWith_18 (by decide) ?_
  refine lv_imul hx hb dX6_leftWith_21 ?_
  refine lv_iload_n hx hb dX6_leftWith_22 rfl (lv_at hl 3 rfl) ?_
  refine lv_iconst (v := 1) hx hb dX6_leftWith_23 (by decide) ?_
  refine lv_iload_n hx hb dX6_leftWith_24 rfl (lv_at hl 2 rfl) ?_
  refine lv_ishl hx hb dX6_leftWith_25 ?_
  refine lv_ior hx hb dX6_leftWith_26 ?_
  refine lv_iadd hx hb dX6_leftWith_27 ?_
  obtain ⟨g_2, hs⟩ := gdE hs
  refine m_iald C G kd_124 ln_124 g_2 dX6_leftWith_28 ?_
  refine lv_iadd hx hb dX6_leftWith_29 ?_
  exact retI C G hs dX6_leftWith_30
