-- X12_takeRead
def rmX12_takeRead : Room := { frames := 0, cells := 0, slots := 0, locals := 0 }
def fX12_takeRead_34b (kh : Sg → Int32 → Option Sg) (kx : Sg → Option Sg) (σ : Sg) (x1 : Int32) : Option Sg :=
  (if 30 ≤ x1 then kx σ else (if inb x1 60 then lt (st σ 136 x1.toNatClampNeg 0) (fun σ_6 => lt (x1 + 1) (fun x1_7 => kh σ_6 x1_7)) else none))
set_option maxRecDepth 100000 in
set_option maxHeartbeats 4000000 in
theorem wX12_takeRead_34b {p : Program} {l : Launch} {e : Env} {s : State} {m : MethodId} {args : Array Value} {below : List Frame} {meth : Method} {c : Code} {D : va_G} {cI cZ cO : ClassId} {b : Nat} (C : Cx p s m args meth c cX12_takeRead RX12 2 none D cI cZ cO) {Rr : Sg} {kh : Sg → Int32 → Option Sg} {kx : Sg → Option Sg} (hh : ∀ (σ : Sg) (x1 : Int32) (H : Heap) (locs : List Loc) (ls : Array Slot), kh σ x1 = some Rr → Gd b D cI cZ cO σ s.heap H locs → lv_has ls 2 [(0, .ref (b + 132)), (1, .int x1)] → W p l e rmX12_takeRead s m args below meth c H locs 0 0 (MQ below (QV b D cI cZ cO Rr) args s 0 0 (fun q => b ≤ q)) (F0 m 34 ls [])) (hxx : ∀ (σ : Sg) (H : Heap) (locs : List Loc) (ls : Array Slot), kx σ = some Rr → Gd b D cI cZ cO σ s.heap H locs → lv_has ls 2 [(0, .ref (b + 132))] → W p l e rmX12_takeRead s m args below meth c H locs 0 0 (MQ below (QV b D cI cZ cO Rr) args s 0 0 (fun q => b ≤ q)) (F0 m 53 ls [])) {σ : Sg} {x1 : Int32} {H : Heap} {locs : List Loc} {ls : Array Slot} (hs : fX12_takeRead_34b kh kx σ x1 = some Rr) (G : Gd b D cI cZ cO σ s.heap H locs) (hl : lv_has ls 2 [(0, .ref (b + 132)), (1, .int x1)]) : W p l e rmX12_takeRead s m args below meth c H locs 0 0 (MQ below (QV b D cI cZ cO Rr) args s 0 0 (fun q => b ≤ q)) (F0 m 34 ls []) := by
  have hx := C.1
  have hb := C.2.1
  unfold fX12_takeRead_34b at hs
  refine lv_iload_n hx hb dX12_takeRead_34 rfl (lv_at hl 1 rfl) ?_
  refine lv_bipush (v := 30) hx hb dX12_takeRead_35 (by decide) ?_
  refine lv_icmp_ge (tgt := 53) hx hb dX12_takeRead_37 (by decide) (fun c_5 => ?_) (fun c_5 => ?_)
  · replace hs := ifT c_5 hs
    exact hxx _ _ _ _ hs G (lv_sub hl [0] rfl)
  · replace hs := ifF c_5 hs
    refine lv_aload_n hx hb dX12_takeRead_40 rfl (lv_at hl 0 rfl) ?_
    refine gf_X12_19 C G kd_132 (n' := 136) rfl dX12_takeRead_41 ?_
    refine lv_iload_n hx hb dX12_takeRead_44 rfl (lv_at hl 1 rfl) ?_
    refine lv_iconst (v := 0) hx hb dX12_takeRead_45 (by decide) ?_
    obtain ⟨g_6, hs⟩ := gdE hs
    refine m_iast C G kd_136 ln_136 g_6 hs dX12_takeRead_46 (fun σ_6 H locs hs G => ?_)
    obtain ⟨x1_7, e_7, hs⟩ := ltE hs
    refine lv_iinc (v := x1_7) (lv' := [(1, .int x1_7), (0, .ref (b + 132))]) hx hb dX12_takeRead_47 hl (k := 1) rfl (by rw [e_7]; rfl) (by decide) rfl (fun ls hl => ?_)
    refine lv_goto (tgt := 34) hx hb dX12_takeRead_50 (by decide) ?_
    exact hh _ _ _ _ _ hs G (lv_sub hl [1, 0] rfl)
def fX12_takeRead_34 : Nat → (Sg → Option Sg) → Sg → Int32 → Option Sg
  | 0, _, _, _ => none
  | fu + 1, kx, σ, x1 => fX12_takeRead_34b (fX12_takeRead_34 fu kx) kx σ x1
theorem fX12_takeRead_34_s (fu : Nat) (kx : Sg → Option Sg) (σ : Sg) (x1 : Int32) : fX12_takeRead_34 (fu + 1) kx σ x1 = fX12_takeRead_34b (fX12_takeRead_34 fu kx) kx σ x1 := by rw [fX12_takeRead_34]
theorem wX12_takeRead_34 {p : Program} {l : Launch} {e : Env} {s : State} {m : MethodId} {args : Array Value} {below : List Frame} {meth : Method} {c : Code} {D : va_G} {cI cZ cO : ClassId} {b : Nat} (C : Cx p s m args meth c cX12_takeRead RX12 2 none D cI cZ cO) {Rr : Sg} {kx : Sg → Option Sg} (hxx : ∀ (σ : Sg) (H : Heap) (locs : List Loc) (ls : Array Slot), kx σ = some Rr → Gd b D cI cZ cO σ s.heap H locs → lv_has ls 2 [(0, .ref (b + 132))] → W p l e rmX12_takeRead s m args below meth c H locs 0 0 (MQ below (QV b D cI cZ cO Rr) args s 0 0 (fun q => b ≤ q)) (F0 m 53 ls [])) : ∀ (fu : Nat) (σ : Sg) (x1 : Int32) (H : Heap) (locs : List Loc) (ls : Array Slot), fX12_takeRead_34 fu kx σ x1 = some Rr → Gd b D cI cZ cO σ s.heap H locs → lv_has ls 2 [(0, .ref (b + 132)), (1, .int x1)] → W p l e rmX12_takeRead s m args below meth c H locs 0 0 (MQ below (QV b D cI cZ cO Rr) args s 0 0 (fun q => b ≤ q)) (F0 m 34 ls []) := by
  intro fu
  induction fu with
  | zero => intro σ x1 H locs ls hs; cases hs
  | succ fu ih =>
    intro σ x1 H locs ls hs G hl
    exact wX12_takeRead_34b C (fun σ x1 H locs ls hs G hl => ih σ x1 H locs ls hs G hl) hxx hs G hl
def fX12_takeRead_65b (kh : Sg → Int32 → Option Sg) (kx : Sg → Option Sg) (σ : Sg) (x1 : Int32) : Option Sg :=
  (if (σ 132 2) ≤ x1 then kx σ else (if inb x1 4 then (if inb (26 + x1) 60 then lt (st σ 136 (26 + x1).toNatClampNeg (σ 138 x1.toNatClampNeg)) (fun σ_12 => lt (x1 + 1) (fun x1_13 => kh σ_12 x1_13)) else none) else none))
set_option maxRecDepth 100000 in
set_option maxHeartbeats 4000000 in
theorem wX12_takeRead_65b {p : Program} {l : Launch} {e : Env} {s : State} {m : MethodId} {args : Array Value} {below : List Frame} {meth : Method} {c : Code} {D : va_G} {cI cZ cO : ClassId} {b : Nat} (C : Cx p s m args meth c cX12_takeRead RX12 2 none D cI cZ cO) {Rr : Sg} {kh : Sg → Int32 → Option Sg} {kx : Sg → Option Sg} (hh : ∀ (σ : Sg) (x1 : Int32) (H : Heap) (locs : List Loc) (ls : Array Slot), kh σ x1 = some Rr → Gd b D cI cZ cO σ s.heap H locs → lv_has ls 2 [(0, .ref (b + 132)), (1, .int x1)] → W p l e rmX12_takeRead s m args below meth c H locs 0 0 (MQ below (QV b D cI cZ cO Rr) args s 0 0 (fun q => b ≤ q)) (F0 m 65 ls [])) (hxx : ∀ (σ : Sg) (H : Heap) (locs : List Loc) (ls : Array Slot), kx σ = some Rr → Gd b D cI cZ cO σ s.heap H locs → lv_has ls 2 [(0, .ref (b + 132))] → W p l e rmX12_takeRead s m args below meth c H locs 0 0 (MQ below (QV b D cI cZ cO Rr) args s 0 0 (fun q => b ≤ q)) (F0 m 94 ls [])) {σ : Sg} {x1 : Int32} {H : Heap} {locs : List Loc} {ls : Array Slot} (hs : fX12_takeRead_65b kh kx σ x1 = some Rr) (G : Gd b D cI cZ cO σ s.heap H locs) (hl : lv_has ls 2 [(0, .ref (b + 132)), (1, .int x1)]) : W p l e rmX12_takeRead s m args below meth c H locs 0 0 (MQ below (QV b D cI cZ cO Rr) args s 0 0 (fun q => b ≤ q)) (F0 m 65 ls []) := by
  have hx := C.1
  have hb := C.2.1
  unfold fX12_takeRead_65b at hs
  refine lv_iload_n hx hb dX12_takeRead_65 rfl (lv_at hl 1 rfl) ?_
  refine lv_aload_n hx hb dX12_takeRead_66 rfl (lv_at hl 0 rfl) ?_
  refine gf_X12_79 C G kd_132 dX12_takeRead_67 ?_
  refine lv_icmp_ge (tgt := 94) hx hb dX12_takeRead_70 (by decide) (fun c_10 => ?_) (fun c_10 => ?_)
  · replace hs := ifT c_10 hs
    exact hxx _ _ _ _ hs G (lv_sub hl [0] rfl)
  · replace hs := ifF c_10 hs
    refine lv_aload_n hx hb dX12_takeRead_73 rfl (lv_at hl 0 rfl) ?_
    refine gf_X12_19 C G kd_132 (n' := 136) rfl dX12_takeRead_74 ?_
    refine lv_bipush (v := 26) hx hb dX12_takeRead_77 (by decide) ?_
    refine lv_iload_n hx hb dX12_takeRead_79 rfl (lv_at hl 1 rfl) ?_
    refine lv_iadd hx hb dX12_takeRead_80 ?_
    refine lv_aload_n hx hb dX12_takeRead_81 rfl (lv_at hl 0 rfl) ?_
    refine gf_X12_29 C G kd_132 (n' := 138) rfl dX12_takeRead_82 ?_
    refine lv_iload_n hx hb dX12_takeRead_85 rfl (lv_at hl 1 rfl) ?_
    obtain ⟨g_11, hs⟩ := gdE hs
    refine m_iald C G kd_138 ln_138 g_11 dX12_takeRead_86 ?_
    obtain ⟨g_12, hs⟩ := gdE hs
    refine m_iast C G kd_136 ln_136 g_12 hs dX12_takeRead_87 (fun σ_12 H locs hs G => ?_)
    obtain ⟨x1_13, e_13, hs⟩ := ltE hs
    refine lv_iinc (v := x1_13) (lv' := [(1, .int x1_13), (0, .ref (b + 132))]) hx hb dX12_takeRead_88 hl (k := 1) rfl (by rw [e_13]; rfl) (by decide) rfl (fun ls hl => ?_)
    refine lv_goto (tgt := 65) hx hb dX12_takeRead_91 (by decide) ?_
    exact hh _ _ _ _ _ hs G (lv_sub hl [1, 0] rfl)
def fX12_takeRead_65 : Nat → (Sg → Option Sg) → Sg → Int32 → Option Sg
  | 0, _, _, _ => none
  | fu + 1, kx, σ, x1 => fX12_takeRead_65b (fX12_takeRead_65 fu kx) kx σ x1
theorem fX12_takeRead_65_s (fu : Nat) (kx : Sg → Option Sg) (σ : Sg) (x1 : Int32) : fX12_takeRead_65 (fu + 1) kx σ x1 = fX12_takeRead_65b (fX12_takeRead_65 fu kx) kx σ x1 := by rw [fX12_takeRead_65]
theorem wX12_takeRead_65 {p : Program} {l : Launch} {e : Env} {s : State} {m : MethodId} {args : Array Value} {below : List Frame} {meth : Method} {c : Code} {D : va_G} {cI cZ cO : ClassId} {b : Nat} (C : Cx p s m args meth c cX12_takeRead RX12 2 none D cI cZ cO) {Rr : Sg} {kx : Sg → Option Sg} (hxx : ∀ (σ : Sg) (H : Heap) (locs : List Loc) (ls : Array Slot), kx σ = some Rr → Gd b D cI cZ cO σ s.heap H locs → lv_has ls 2 [(0, .ref (b + 132))] → W p l e rmX12_takeRead s m args below meth c H locs 0 0 (MQ below (QV b D cI cZ cO Rr) args s 0 0 (fun q => b ≤ q)) (F0 m 94 ls [])) : ∀ (fu : Nat) (σ : Sg) (x1 : Int32) (H : Heap) (locs : List Loc) (ls : Array Slot), fX12_takeRead_65 fu kx σ x1 = some Rr → Gd b D cI cZ cO σ s.heap H locs → lv_has ls 2 [(0, .ref (b + 132)), (1, .int x1)] → W p l e rmX12_takeRead s m args below meth c H locs 0 0 (MQ below (QV b D cI cZ cO Rr) args s 0 0 (fun q => b ≤ q)) (F0 m 65 ls []) := by
  intro fu
  induction fu with
  | zero => intro σ x1 H locs ls hs; cases hs
  | succ fu ih =>
    intro σ x1 H locs ls hs G hl
    exact wX12_takeRead_65b C (fun σ x1 H locs ls hs G hl => ih σ x1 H locs ls hs G hl) hxx hs G hl
def fX12_takeRead_156 (kh : Sg → Int32 → Option Sg) (kx : Sg → Option Sg) (σ : Sg) (x1 : Int32) (y0 : Int32) (y1 : Int32) : Option Sg :=
  (if inb y1 7 then lt (st σ 135 y1.toNatClampNeg y0) (fun σ_22 => (if inb x1 7 then (if inb (5 + x1) 60 then lt (st σ_22 136 (5 + x1).toNatClampNeg (σ_22 141 x1.toNatClampNeg)) (fun σ_24 => lt (x1 + 1) (fun x1_25 => kh σ_24 x1_25)) else none) else none)) else none)
set_option maxRecDepth 100000 in
set_option maxHeartbeats 4000000 in
theorem wX12_takeRead_156 {p : Program} {l : Launch} {e : Env} {s : State} {m : MethodId} {args : Array Value} {below : List Frame} {meth : Method} {c : Code} {D : va_G} {cI cZ cO : ClassId} {b : Nat} (C : Cx p s m args meth c cX12_takeRead RX12 2 none D cI cZ cO) {Rr : Sg} {kh : Sg → Int32 → Option Sg} {kx : Sg → Option Sg} (hh : ∀ (σ : Sg) (x1 : Int32) (H : Heap) (locs : List Loc) (ls : Array Slot), kh σ x1 = some Rr → Gd b D cI cZ cO σ s.heap H locs → lv_has ls 2 [(0, .ref (b + 132)), (1, .int x1)] → W p l e rmX12_takeRead s m args below meth c H locs 0 0 (MQ below (QV b D cI cZ cO Rr) args s 0 0 (fun q => b ≤ q)) (F0 m 96 ls [])) (hxx : ∀ (σ : Sg) (H : Heap) (locs : List Loc) (ls : Array Slot), kx σ = some Rr → Gd b D cI cZ cO σ s.heap H locs → lv_has ls 2 [] → W p l e rmX12_takeRead s m args below meth c H locs 0 0 (MQ below (QV b D cI cZ cO Rr) args s 0 0 (fun q => b ≤ q)) (F0 m 177 ls [])) {σ : Sg} {x1 : Int32} {y0 : Int32} {y1 : Int32} {H : Heap} {locs : List Loc} {ls : Array Slot} (hs : fX12_takeRead_156 kh kx σ x1 y0 y1 = some Rr) (G : Gd b D cI cZ cO σ s.heap H locs) (hl : lv_has ls 2 [(0, .ref (b + 132)), (1, .int x1)]) : W p l e rmX12_takeRead s m args below meth c H locs 0 0 (MQ below (QV b D cI cZ cO Rr) args s 0 0 (fun q => b ≤ q)) (F0 m 156 ls [.int y0, .int y1, .ref (b + 135)]) := by
  have hx := C.1
  have hb := C.2.1
  unfold fX12_takeRead_156 at hs
  obtain ⟨g_22, hs⟩ := gdE hs
  refine m_iast C G kd_135 ln_135 g_22 hs dX12_takeRead_156 (fun σ_22 H locs hs G => ?_)
  refine lv_aload_n hx hb dX12_takeRead_157 rfl (lv_at hl 0 rfl) ?_
  refine gf_X12_19 C G kd_132 (n' := 136) rfl dX12_takeRead_158 ?_
  refine lv_iconst (v := 5) hx hb dX12_takeRead_161 (by decide) ?_
  refine lv_iload_n hx hb dX12_takeRead_162 rfl (lv_at hl 1 rfl) ?_
  refine lv_iadd hx hb dX12_takeRead_163 ?_
  refine lv_aload_n hx hb dX12_takeRead_164 rfl (lv_at hl 0 rfl) ?_
  refine gf_X12_38 C G kd_132 (n' := 141) rfl dX12_takeRead_165 ?_
  refine lv_iload_n hx hb dX12_takeRead_168 rfl (lv_at hl 1 rfl) ?_
  obtain ⟨g_23, hs⟩ := gdE hs
  refine m_iald C G kd_141 ln_141 g_23 dX12_takeRead_169 ?_
  obtain ⟨g_24, hs⟩ := gdE hs
  refine m_iast C G kd_136 ln_136 g_24 hs dX12_takeRead_170 (fun σ_24 H locs hs G => ?_)
  obtain ⟨x1_25, e_25, hs⟩ := ltE hs
  refine lv_iinc (v := x1_25) (lv' := [(1, .int x1_25), (0, .ref (b + 132))]) hx hb dX12_takeRead_171 hl (k := 1) rfl (by rw [e_25]; rfl) (by decide) rfl (fun ls hl => ?_)
  refine lv_goto (tgt := 96) hx hb dX12_takeRead_174 (by decide) ?_
  exact hh _ _ _ _ _ hs G (lv_sub hl [1, 0] rfl)
def fX12_takeRead_96b (kh : Sg → Int32 → Option Sg) (kx : Sg → Option Sg) (σ : Sg) (x1 : Int32) : Option Sg :=
  (if (σ 132 3) ≤ x1 then kx σ else (if inb x1 7 then (if inb x1 7 then lt (st σ 133 x1.toNatClampNeg (σ 139 x1.toNatClampNeg)) (fun σ_17 => (if inb x1 7 then (if inb x1 7 then lt (st σ_17 134 x1.toNatClampNeg (σ_17 140 x1.toNatClampNeg)) (fun σ_19 => (if inb x1 7 then (if (σ_19 132 3) ≤ (σ_19 142 x1.toNatClampNeg) then fX12_takeRead_156 kh kx σ_19 x1 (-1) x1 else (if inb x1 7 then fX12_takeRead_156 kh kx σ_19 x1 (σ_19 142 x1.toNatClampNeg) x1 else none)) else none)) else none) else none)) else none) else none))
set_option maxRecDepth 100000 in
set_option maxHeartbeats 4000000 in
theorem wX12_takeRead_96b {p : Program} {l : Launch} {e : Env} {s : State} {m : MethodId} {args : Array Value} {below : List Frame} {meth : Method} {c : Code} {D : va_G} {cI cZ cO : ClassId} {b : Nat} (C : Cx p s m args meth c cX12_takeRead RX12 2 none D cI cZ cO) {Rr : Sg} {kh : Sg → Int32 → Option Sg} {kx : Sg → Option Sg} (hh : ∀ (σ : Sg) (x1 : Int32) (H : Heap) (locs : List Loc) (ls : Array Slot), kh σ x1 = some Rr → Gd b D cI cZ cO σ s.heap H locs → lv_has ls 2 [(0, .ref (b + 132)), (1, .int x1)] → W p l e rmX12_takeRead s m args below meth c H locs 0 0 (MQ below (QV b D cI cZ cO Rr) args s 0 0 (fun q => b ≤ q)) (F0 m 96 ls [])) (hxx : ∀ (σ : Sg) (H : Heap) (locs : List Loc) (ls : Array Slot), kx σ = some Rr → Gd b D cI cZ cO σ s.heap H locs → lv_has ls 2 [] → W p l e rmX12_takeRead s m args below meth c H locs 0 0 (MQ below (QV b D cI cZ cO Rr) args s 0 0 (fun q => b ≤ q)) (F0 m 177 ls [])) {σ : Sg} {x1 : Int32} {H : Heap} {locs : List Loc} {ls : Array Slot} (hs : fX12_takeRead_96b kh kx σ x1 = some Rr) (G : Gd b D cI cZ cO σ s.heap H locs) (hl : lv_has ls 2 [(0, .ref (b + 132)), (1, .int x1)]) : W p l e rmX12_takeRead s m args below meth c H locs 0 0 (MQ below (QV b D cI cZ cO Rr) args s 0 0 (fun q => b ≤ q)) (F0 m 96 ls []) := by
  have hx := C.1
  have hb := C.2.1
  unfold fX12_takeRead_96b at hs
  refine lv_iload_n hx hb dX12_takeRead_96 rfl (lv_at hl 1 rfl) ?_
  refine lv_aload_n hx hb dX12_takeRead_97 rfl (lv_at hl 0 rfl) ?_
  refine gf_X12_72 C G kd_132 dX12_takeRead_98 ?_
  refine lv_icmp_ge (tgt := 177) hx hb dX12_takeRead_101 (by decide) (fun c_15 => ?_) (fun c_15 => ?_)
  · replace hs := ifT c_15 hs
    exact hxx _ _ _ _ hs G (lv_sub hl [] rfl)
  · replace hs := ifF c_15 hs
    refine lv_aload_n hx hb dX12_takeRead_104 rfl (lv_at hl 0 rfl) ?_
    refine gf_X12_7 C G kd_132 (n' := 133) rfl dX12_takeRead_105 ?_
    refine lv_iload_n hx hb dX12_takeRead_108 rfl (lv_at hl 1 rfl) ?_
    refine lv_aload_n hx hb dX12_takeRead_109 rfl (lv_at hl 0 rfl) ?_
    refine gf_X12_32 C G kd_132 (n' := 139) rfl dX12_takeRead_110 ?_
    refine lv_iload_n hx hb dX12_takeRead_113 rfl (lv_at hl 1 rfl) ?_
    obtain ⟨g_16, hs⟩ := gdE hs
    refine m_iald C G kd_139 ln_139 g_16 dX12_takeRead_114 ?_
    obtain ⟨g_17, hs⟩ := gdE hs
    refine m_iast C G kd_133 ln_133 g_17 hs dX12_takeRead_115 (fun σ_17 H locs hs G => ?_)
    refine lv_aload_n hx hb dX12_takeRead_116 rfl (lv_at hl 0 rfl) ?_
    refine gf_X12_13 C G kd_132 (n' := 134) rfl dX12_takeRead_117 ?_
    refine lv_iload_n hx hb dX12_takeRead_120 rfl (lv_at hl 1 rfl) ?_
    refine lv_aload_n hx hb dX12_takeRead_121 rfl (lv_at hl 0 rfl) ?_
    refine gf_X12_35 C G kd_132 (n' := 140) rfl dX12_takeRead_122 ?_
    refine lv_iload_n hx hb dX12_takeRead_125 rfl (lv_at hl 1 rfl) ?_
    obtain ⟨g_18, hs⟩ := gdE hs
    refine m_iald C G kd_140 ln_140 g_18 dX12_takeRead_126 ?_
    obtain ⟨g_19, hs⟩ := gdE hs
    refine m_iast C G kd_134 ln_134 g_19 hs dX12_takeRead_127 (fun σ_19 H locs hs G => ?_)
    refine lv_aload_n hx hb dX12_takeRead_128 rfl (lv_at hl 0 rfl) ?_
    refine gf_X12_16 C G kd_132 (n' := 135) rfl dX12_takeRead_129 ?_
    refine lv_iload_n hx hb dX12_takeRead_132 rfl (lv_at hl 1 rfl) ?_
    refine lv_aload_n hx hb dX12_takeRead_133 rfl (lv_at hl 0 rfl) ?_
    refine gf_X12_41 C G kd_132 (n' := 142) rfl dX12_takeRead_134 ?_
    refine lv_iload_n hx hb dX12_takeRead_137 rfl (lv_at hl 1 rfl) ?_
    obtain ⟨g_20, hs⟩ := gdE hs
    refine m_iald C G kd_142 ln_142 g_20 dX12_takeRead_138 ?_
    refine lv_aload_n hx hb dX12_takeRead_139 rfl (lv_at hl 0 rfl) ?_
    refine gf_X12_72 C G kd_132 dX12_takeRead_140 ?_
    refine lv_icmp_ge (tgt := 155) hx hb dX12_takeRead_143 (by decide) (fun c_21 => ?_) (fun c_21 => ?_)
    · replace hs := ifT c_21 hs
      refine lv_iconst (v := (-1)) hx hb dX12_takeRead_155 (by decide) ?_
      exact wX12_takeRead_156 C  hh hxx hs G (lv_sub hl [0, 1] rfl)
    · replace hs := ifF c_21 hs
      refine lv_aload_n hx hb dX12_takeRead_146 rfl (lv_at hl 0 rfl) ?_
      refine gf_X12_41 C G kd_132 (n' := 142) rfl dX12_takeRead_147 ?_
      refine lv_iload_n hx hb dX12_takeRead_150 rfl (lv_at hl 1 rfl) ?_
      obtain ⟨g_26, hs⟩ := gdE hs
      refine m_iald C G kd_142 ln_142 g_26 dX12_takeRead_151 ?_
      refine lv_goto (tgt := 156) hx hb dX12_takeRead_152 (by decide) ?_
      exact wX12_takeRead_156 C  hh hxx hs G (lv_sub hl [0, 1] rfl)
def fX12_takeRead_96 : Nat → (Sg → Option Sg) → Sg → Int32 → Option Sg
  | 0, _, _, _ => none
  | fu + 1, kx, σ, x1 => fX12_takeRead_96b (fX12_takeRead_96 fu kx) kx σ x1
theorem fX12_takeRead_96_s (fu : Nat) (kx : Sg → Option Sg) (σ : Sg) (x1 : Int32) : fX12_takeRead_96 (fu + 1) kx σ x1 = fX12_takeRead_96b (fX12_takeRead_96 fu kx) kx σ x1 := by rw [fX12_takeRead_96]
theorem wX12_takeRead_96 {p : Program} {l : Launch} {e : Env} {s : State} {m : MethodId} {args : Array Value} {below : List Frame} {meth : Method} {c : Code} {D : va_G} {cI cZ cO : ClassId} {b : Nat} (C : Cx p s m args meth c cX12_takeRead RX12 2 none D cI cZ cO) {Rr : Sg} {kx : Sg → Option Sg} (hxx : ∀ (σ : Sg) (H : Heap) (locs : List Loc) (ls : Array Slot), kx σ = some Rr → Gd b D cI cZ cO σ s.heap H locs → lv_has ls 2 [] → W p l e rmX12_takeRead s m args below meth c H locs 0 0 (MQ below (QV b D cI cZ cO Rr) args s 0 0 (fun q => b ≤ q)) (F0 m 177 ls [])) : ∀ (fu : Nat) (σ : Sg) (x1 : Int32) (H : Heap) (locs : List Loc) (ls : Array Slot), fX12_takeRead_96 fu kx σ x1 = some Rr → Gd b D cI cZ cO σ s.heap H locs → lv_has ls 2 [(0, .ref (b + 132)), (1, .int x1)] → W p l e rmX12_takeRead s m args below meth c H locs 0 0 (MQ below (QV b D cI cZ cO Rr) args s 0 0 (fun q => b ≤ q)) (F0 m 96 ls []) := by
  intro fu
  induction fu with
  | zero => intro σ x1 H locs ls hs; cases hs
  | succ fu ih =>
    intro σ x1 H locs ls hs G hl
    exact wX12_takeRead_96b C (fun σ x1 H locs ls hs G hl => ih σ x1 H locs ls hs G hl) hxx hs G hl
def fX12_takeRead (σ : Sg) : Option Sg :=
  lt (st σ 132 0 (σ 132 14)) (fun σ_1 => lt (st σ_1 132 1 (σ_1 132 15)) (fun σ_2 => lt (st σ_2 132 2 (σ_2 132 16)) (fun σ_3 => lt (st σ_3 132 3 (σ_3 132 17)) (fun σ_4 => fX12_takeRead_34 FU (fun σ_8 => (if inb 0 60 then lt (st σ_8 136 (0 : Int32).toNatClampNeg (σ_8 132 0)) (fun σ_9 => fX12_takeRead_65 FU (fun σ_14 => fX12_takeRead_96 FU (fun σ_27 => some σ_27) σ_14 0) σ_9 0) else none)) σ_4 0))))
set_option maxRecDepth 100000 in
set_option maxHeartbeats 4000000 in
theorem ctX12_takeRead (l : Launch) {D : va_G} {cI cZ cO : ClassId} {b : Nat} {σ : Sg} {Rr : Sg} (hs : fX12_takeRead σ = some Rr) : MV l yX12_takeRead cX12_takeRead 2 rmX12_takeRead [.ref (b + 132)] b D cI cZ cO σ Rr := by
  unfold fX12_takeRead at hs
  refine metV (by decide +kernel) (Nat.le_of_ble_eq_true rfl) (fun p e s m below meth c ls C G hl => ?_)
  have C : Cx p s m _ meth c cX12_takeRead RX12 2 none D cI cZ cO := C
  have hx := C.1
  have hb := C.2.1
  have hl : lv_has ls 2 [(0, .ref (b + 132))] := hl
  refine lv_aload_n hx hb dX12_takeRead_0 rfl (lv_at hl 0 rfl) ?_
  refine lv_aload_n hx hb dX12_takeRead_1 rfl (lv_at hl 0 rfl) ?_
  refine gf_X12_110 C G kd_132 dX12_takeRead_2 ?_
  refine pf_X12_69 C G kd_132 hs dX12_takeRead_5 (fun σ_1 H locs hs G => ?_)
  refine lv_aload_n hx hb dX12_takeRead_8 rfl (lv_at hl 0 rfl) ?_
  refine lv_aload_n hx hb dX12_takeRead_9 rfl (lv_at hl 0 rfl) ?_
  refine gf_X12_113 C G kd_132 dX12_takeRead_10 ?_
  refine pf_X12_135 C G kd_132 hs dX12_takeRead_13 (fun σ_2 H locs hs G => ?_)
  refine lv_aload_n hx hb dX12_takeRead_16 rfl (lv_at hl 0 rfl) ?_
  refine lv_aload_n hx hb dX12_takeRead_17 rfl (lv_at hl 0 rfl) ?_
  refine gf_X12_116 C G kd_132 dX12_takeRead_18 ?_
  refine pf_X12_79 C G kd_132 hs dX12_takeRead_21 (fun σ_3 H locs hs G => ?_)
  refine lv_aload_n hx hb dX12_takeRead_24 rfl (lv_at hl 0 rfl) ?_
  refine lv_aload_n hx hb dX12_takeRead_25 rfl (lv_at hl 0 rfl) ?_
  refine gf_X12_119 C G kd_132 dX12_takeRead_26 ?_
  refine pf_X12_72 C G kd_132 hs dX12_takeRead_29 (fun σ_4 H locs hs G => ?_)
  refine lv_iconst (v := 0) hx hb dX12_takeRead_32 (by decide) ?_
  refine lv_istore_n (lv' := [(1, .int 0), (0, .ref (b + 132))]) hx hb dX12_takeRead_33 rfl hl (by decide) rfl (fun ls hl => ?_)
  refine wX12_takeRead_34 C (fun σ_8 H locs ls hs G hl => ?_) FU _ _ _ _ _ hs G (lv_sub hl [1, 0] rfl)
  refine lv_aload_n hx hb dX12_takeRead_53 rfl (lv_at hl 0 rfl) ?_
  refine gf_X12_19 C G kd_132 (n' := 136) rfl dX12_takeRead_54 ?_
  refine lv_iconst (v := 0) hx hb dX12_takeRead_57 (by decide) ?_
  refine lv_aload_n hx hb dX12_takeRead_58 rfl (lv_at hl 0 rfl) ?_
  refine gf_X12_69 C G kd_132 dX12_takeRead_59 ?_
  obtain ⟨g_9, hs⟩ := gdE hs
  refine m_iast C G kd_136 ln_136 g_9 hs dX12_takeRead_62 (fun σ_9 H locs hs G => ?_)
  refine lv_iconst (v := 0) hx hb dX12_takeRead_63 (by decide) ?_
  refine lv_istore_n (lv' := [(1, .int 0), (0, .ref (b + 132))]) hx hb dX12_takeRead_64 rfl hl (by decide) rfl (fun ls hl => ?_)
  refine wX12_takeRead_65 C (fun σ_14 H locs ls hs G hl => ?_) FU _ _ _ _ _ hs G (lv_sub hl [1, 0] rfl)
  refine lv_iconst (v := 0) hx hb dX12_takeRead_94 (by decide) ?_
  refine lv_istore_n (lv' := [(1, .int 0), (0, .ref (b + 132))]) hx hb dX12_takeRead_95 rfl hl (by decide) rfl (fun ls hl => ?_)
  refine wX12_takeRead_96 C (fun σ_27 H locs ls hs G hl => ?_) FU _ _ _ _ _ hs G (lv_sub hl [1, 0] rfl)
  exact retV C G hs dX12_takeRead_177
-- X12_hills
def rmX12_hills : Room := { frames := 4, cells := 0, slots := 0, locals := 95 }
def fX12_hills_32b (kh : Sg → Int32 → Option (Int32 × Sg)) (kx : Sg → Int32 → Option (Int32 × Sg)) (σ : Sg) (x1 : Int32) : Option (Int32 × Sg) :=
  (if x1 = 0 then bi (fX12_here σ) (fun r_8 σ_8 => (if r_8 < 0 then kx σ_8 x1 else bi (fX12_takeClause σ_8) (fun r_10 σ_10 => kh σ_10 r_10))) else kx σ x1)
set_option maxRecDepth 100000 in
set_option maxHeartbeats 4000000 in
theorem wX12_hills_32b {p : Program} {l : Launch} {e : Env} {s : State} {m : MethodId} {args : Array Value} {below : List Frame} {meth : Method} {c : Code} {D : va_G} {cI cZ cO : ClassId} {b : Nat} (C : Cx p s m args meth c cX12_hills RX12 2 (some .int) D cI cZ cO) {Rr : (Int32 × Sg)} {kh : Sg → Int32 → Option (Int32 × Sg)} {kx : Sg → Int32 → Option (Int32 × Sg)} (hh : ∀ (σ : Sg) (x1 : Int32) (H : Heap) (locs : List Loc) (ls : Array Slot), kh σ x1 = some Rr → Gd b D cI cZ cO σ s.heap H locs → lv_has ls 2 [(0, .ref (b + 132)), (1, .int x1)] → W p l e rmX12_hills s m args below meth c H locs 0 0 (MQ below (QI b D cI cZ cO Rr) args s 0 0 (fun q => b ≤ q)) (F0 m 32 ls [])) (hxx : ∀ (σ : Sg) (x1 : Int32) (H : Heap) (locs : List Loc) (ls : Array Slot), kx σ x1 = some Rr → Gd b D cI cZ cO σ s.heap H locs → lv_has ls 2 [(0, .ref (b + 132)), (1, .int x1)] → W p l e rmX12_hills s m args below meth c H locs 0 0 (MQ below (QI b D cI cZ cO Rr) args s 0 0 (fun q => b ≤ q)) (F0 m 51 ls [])) {σ : Sg} {x1 : Int32} {H : Heap} {locs : List Loc} {ls : Array Slot} (hs : fX12_hills_32b kh kx σ x1 = some Rr) (G : Gd b D cI cZ cO σ s.heap H locs) (hl : lv_has ls 2 [(0, .ref (b + 132)), (1, .int x1)]) : W p l e rmX12_hills s m args below meth c H locs 0 0 (MQ below (QI b D cI cZ cO Rr) args s 0 0 (fun q => b ≤ q)) (F0 m 32 ls []) := by
  have hx := C.1
  have hb := C.2.1
  unfold fX12_hills_32b at hs
  refine lv_iload_n hx hb dX12_hills_32 rfl (lv_at hl 1 rfl) ?_
  refine lv_if_ne (tgt := 51) hx hb dX12_hills_33 (by decide) (fun c_7 => ?_) (fun c_7 => ?_)
  · replace hs := ifF c_7 hs
    exact hxx _ _ _ _ _ hs G (lv_sub hl [0, 1] rfl)
  · replace hs := ifT c_7 hs
    refine lv_aload_n hx hb dX12_hills_36 rfl (lv_at hl 0 rfl) ?_
    obtain ⟨r_8, σ_8, hc, hs⟩ := biE hs
    refine callVI (ar := 0) (As := []) (rest := []) C G hl.1 (ctX12_here _  hc) ⟨wd_997, wd_999, wd_26, wd_81, wd_1000⟩ (by decide +kernel) rfl ⟨rfl, rfl⟩ ⟨Nat.le_of_ble_eq_true rfl, Nat.le_of_ble_eq_true rfl⟩ (kd_lt kd_132 (by decide)) (ent_12 b cI cZ cO _ kd_132) rfl (Nat.le_of_ble_eq_true rfl) ⟨Nat.le_of_ble_eq_true rfl, Nat.le_of_ble_eq_true rfl⟩ dX12_hills_37 rfl (fun H locs G => ?_)
    refine lv_if_lt (tgt := 51) hx hb dX12_hills_40 (by decide) (fun c_9 => ?_) (fun c_9 => ?_)
    · replace hs := ifT c_9 hs
      exact hxx _ _ _ _ _ hs G (lv_sub hl [0, 1] rfl)
    · replace hs := ifF c_9 hs
      refine lv_aload_n hx hb dX12_hills_43 rfl (lv_at hl 0 rfl) ?_
      obtain ⟨r_10, σ_10, hc, hs⟩ := biE hs
      refine callVI (ar := 0) (As := []) (rest := []) C G hl.1 (ctX12_takeClause _  hc) ⟨wd_1001, wd_1003, wd_27, wd_81, wd_1004⟩ (by decide +kernel) rfl ⟨rfl, rfl⟩ ⟨Nat.le_of_ble_eq_true rfl, Nat.le_of_ble_eq_true rfl⟩ (kd_lt kd_132 (by decide)) (ent_12 b cI cZ cO _ kd_132) rfl (Nat.le_of_ble_eq_true rfl) ⟨Nat.le_of_ble_eq_true rfl, Nat.le_of_ble_eq_true rfl⟩ dX12_hills_44 rfl (fun H locs G => ?_)
      refine lv_istore_n (lv' := [(1, .int r_10), (0, .ref (b + 132))]) hx hb dX12_hills_47 rfl hl (by decide) rfl (fun ls hl => ?_)
      refine lv_goto (tgt := 32) hx hb dX12_hills_48 (by decide) ?_
      exact hh _ _ _ _ _ hs G (lv_sub hl [1, 0] rfl)
def fX12_hills_32 : Nat → (Sg → Int32 → Option (Int32 × Sg)) → Sg → Int32 → Option (Int32 × Sg)
  | 0, _, _, _ => none
  | fu + 1, kx, σ, x1 => fX12_hills_32b (fX12_hills_32 fu kx) kx σ x1
theorem fX12_hills_32_s (fu : Nat) (kx : Sg → Int32 → Option (Int32 × Sg)) (σ : Sg) (x1 : Int32) : fX12_hills_32 (fu + 1) kx σ x1 = fX12_hills_32b (fX12_hills_32 fu kx) kx σ x1 := by rw [fX12_hills_32]
theorem wX12_hills_32 {p : Program} {l : Launch} {e : Env} {s : State} {m : MethodId} {args : Array Value} {below : List Frame} {meth : Method} {c : Code} {D : va_G} {cI cZ cO : ClassId} {b : Nat} (C : Cx p s m args meth c cX12_hills RX12 2 (some .int) D cI cZ cO) {Rr : (Int32 × Sg)} {kx : Sg → Int32 → Option (Int32 × Sg)} (hxx : ∀ (σ : Sg) (x1 : Int32) (H : Heap) (locs : List Loc) (ls : Array Slot), kx σ x1 = some Rr → Gd b D cI cZ cO σ s.heap H locs → lv_has ls 2 [(0, .ref (b + 132)), (1, .int x1)] → W p l e rmX12_hills s m args below meth c H locs 0 0 (MQ below (QI b D cI cZ cO Rr) args s 0 0 (fun q => b ≤ q)) (F0 m 51 ls [])) : ∀ (fu : Nat) (σ : Sg) (x1 : Int32) (H : Heap) (locs : List Loc) (ls : Array Slot), fX12_hills_32 fu kx σ x1 = some Rr → Gd b D cI cZ cO σ s.heap H locs → lv_has ls 2 [(0, .ref (b + 132)), (1, .int x1)] → W p l e rmX12_hills s m args below meth c H locs 0 0 (MQ below (QI b D cI cZ cO Rr) args s 0 0 (fun q => b ≤ q)) (F0 m 32 ls []) := by
  intro fu
  induction fu with
  | zero => intro σ x1 H locs ls hs; cases hs
  | succ fu ih =>
    intro σ x1 H locs ls hs G hl
    exact wX12_hills_32b C (fun σ x1 H locs ls hs G hl => ih σ x1 H locs ls hs G hl) hxx hs G hl
def fX12_hills_51 (σ : Sg) (x1 : Int32) : Option (Int32 × Sg) :=
  lt (st σ 132 10 0) (fun σ_12 => (if x1 ≤ 0 then bv (fX12_takeRead σ_12) (fun σ_14 => lt (st σ_14 132 28 0) (fun σ_15 => lt (st σ_15 132 31 0) (fun σ_16 => lt (st σ_16 132 25 0) (fun σ_17 => (if inb 0 2 then lt (st σ_17 150 (0 : Int32).toNatClampNeg 0) (fun σ_18 => (if inb 1 2 then lt (st σ_18 150 (1 : Int32).toNatClampNeg 0) (fun σ_19 => some ((σ_19 132 3), σ_19)) else none)) else none))))) else some (((-10) - x1), σ_12)))
set_option maxRecDepth 100000 in
set_option maxHeartbeats 4000000 in
theorem wX12_hills_51 {p : Program} {l : Launch} {e : Env} {s : State} {m : MethodId} {args : Array Value} {below : List Frame} {meth : Method} {c : Code} {D : va_G} {cI cZ cO : ClassId} {b : Nat} (C : Cx p s m args meth c cX12_hills RX12 2 (some .int) D cI cZ cO) {Rr : (Int32 × Sg)} {σ : Sg} {x1 : Int32} {H : Heap} {locs : List Loc} {ls : Array Slot} (hs : fX12_hills_51 σ x1 = some Rr) (G : Gd b D cI cZ cO σ s.heap H locs) (hl : lv_has ls 2 [(0, .ref (b + 132)), (1, .int x1)]) : W p l e rmX12_hills s m args below meth c H locs 0 0 (MQ below (QI b D cI cZ cO Rr) args s 0 0 (fun q => b ≤ q)) (F0 m 51 ls []) := by
  have hx := C.1
  have hb := C.2.1
  unfold fX12_hills_51 at hs
  refine lv_aload_n hx hb dX12_hills_51 rfl (lv_at hl 0 rfl) ?_
  refine lv_iconst (v := 0) hx hb dX12_hills_52 (by decide) ?_
  refine pf_X12_85 C G kd_132 hs dX12_hills_53 (fun σ_12 H locs hs G => ?_)
  refine lv_iload_n hx hb dX12_hills_56 rfl (lv_at hl 1 rfl) ?_
  refine lv_if_le (tgt := 65) hx hb dX12_hills_57 (by decide) (fun c_13 => ?_) (fun c_13 => ?_)
  · replace hs := ifT c_13 hs
    refine lv_aload_n hx hb dX12_hills_65 rfl (lv_at hl 0 rfl) ?_
    obtain ⟨σ_14, hc, hs⟩ := bvE hs
    refine callVV (ar := 0) (As := []) (rest := []) C G hl.1 (ctX12_takeRead _  hc) ⟨wd_1029, wd_1031, wd_33, wd_81, wd_1032⟩ (by decide +kernel) rfl ⟨rfl, rfl⟩ ⟨Nat.le_of_ble_eq_true rfl, Nat.le_of_ble_eq_true rfl⟩ (kd_lt kd_132 (by decide)) (ent_12 b cI cZ cO _ kd_132) rfl (Nat.le_of_ble_eq_true rfl) ⟨Nat.le_of_ble_eq_true rfl, Nat.le_of_ble_eq_true rfl⟩ dX12_hills_66 rfl (fun H locs G => ?_)
    refine lv_aload_n hx hb dX12_hills_69 rfl (lv_at hl 0 rfl) ?_
    refine lv_iconst (v := 0) hx hb dX12_hills_70 (by decide) ?_
    refine pf_X12_144 C G kd_132 hs dX12_hills_71 (fun σ_15 H locs hs G => ?_)
    refine lv_aload_n hx hb dX12_hills_74 rfl (lv_at hl 0 rfl) ?_
    refine lv_iconst (v := 0) hx hb dX12_hills_75 (by decide) ?_
    refine pf_X12_147 C G kd_132 hs dX12_hills_76 (fun σ_16 H locs hs G => ?_)
    refine lv_aload_n hx hb dX12_hills_79 rfl (lv_at hl 0 rfl) ?_
    refine lv_iconst (v := 0) hx hb dX12_hills_80 (by decide) ?_
    refine pf_X12_150 C G kd_132 hs dX12_hills_81 (fun σ_17 H locs hs G => ?_)
    refine lv_aload_n hx hb dX12_hills_84 rfl (lv_at hl 0 rfl) ?_
    refine gf_X12_65 C G kd_132 (n' := 150) rfl dX12_hills_85 ?_
    refine lv_iconst (v := 0) hx hb dX12_hills_88 (by decide) ?_
    refine lv_iconst (v := 0) hx hb dX12_hills_89 (by decide) ?_
    obtain ⟨g_18, hs⟩ := gdE hs
    refine m_zast C G kd_150 ln_150 g_18 (by decide) hs dX12_hills_90 (fun σ_18 H locs hs G => ?_)
    refine lv_aload_n hx hb dX12_hills_91 rfl (lv_at hl 0 rfl) ?_
    refine gf_X12_65 C G kd_132 (n' := 150) rfl dX12_hills_92 ?_
    refine lv_iconst (v := 1) hx hb dX12_hills_95 (by decide) ?_
    refine lv_iconst (v := 0) hx hb dX12_hills_96 (by decide) ?_
    obtain ⟨g_19, hs⟩ := gdE hs
    refine m_zast C G kd_150 ln_150 g_19 (by decide) hs dX12_hills_97 (fun σ_19 H locs hs G => ?_)
    refine lv_aload_n hx hb dX12_hills_98 rfl (lv_at hl 0 rfl) ?_
    refine gf_X12_72 C G kd_132 dX12_hills_99 ?_
    exact retI C G hs dX12_hills_102
  · replace hs := ifF c_13 hs
    refine lv_bipush (v := (-10)) hx hb dX12_hills_60 (by decide) ?_
    refine lv_iload_n hx hb dX12_hills_62 rfl (lv_at hl 1 rfl) ?_
    refine lv_isub hx hb dX12_hills_63 ?_
    exact retI C G hs dX12_hills_64
def fX12_hills (σ : Sg) : Option (Int32 × Sg) :=
  lt (st σ 132 11 (-1)) (fun σ_1 => lt (st σ_1 132 12 0) (fun σ_2 => lt (st σ_2 132 14 0) (fun σ_3 => lt (st σ_3 132 15 0) (fun σ_4 => lt (st σ_4 132 16 0) (fun σ_5 => lt (st σ_5 132 17 0) (fun σ_6 => fX12_hills_32 FU (fun σ_11 x1_11 => fX12_hills_51 σ_11 x1_11) σ_6 0))))))
set_option maxRecDepth 100000 in
set_option maxHeartbeats 4000000 in
theorem ctX12_hills (l : Launch) {D : va_G} {cI cZ cO : ClassId} {b : Nat} {σ : Sg} {Rr : (Int32 × Sg)} (hs : fX12_hills σ = some Rr) : MI l yX12_hills cX12_hills 2 (some .int) rmX12_hills [.ref (b + 132)] b D cI cZ cO σ Rr := by
  unfold fX12_hills at hs
  refine metI (by decide +kernel) (Nat.le_of_ble_eq_true rfl) (fun p e s m below meth c ls C G hl => ?_)
  have C : Cx p s m _ meth c cX12_hills RX12 2 (some .int) D cI cZ cO := C
  have hx := C.1
  have hb := C.2.1
  have hl : lv_has ls 2 [(0, .ref (b + 132))] := hl
  refine lv_aload_n hx hb dX12_hills_0 rfl (lv_at hl 0 rfl) ?_
  refine lv_iconst (v := (-1)) hx hb dX12_hills_1 (by decide) ?_
  refine pf_X12_25 C G kd_132 hs dX12_hills_2 (fun σ_1 H locs hs G => ?_)
  refine lv_aload_n hx hb dX12_hills_5 rfl (lv_at hl 0 rfl) ?_
  refine lv_iconst (v := 0) hx hb dX12_hills_6 (by decide) ?_
  refine pf_X12_89 C G kd_132 hs dX12_hills_7 (fun σ_2 H locs hs G => ?_)
  refine lv_aload_n hx hb dX12_hills_10 rfl (lv_at hl 0 rfl) ?_
  refine lv_iconst (v := 0) hx hb dX12_hills_11 (by decide) ?_
  refine pf_X12_110 C G kd_132 hs dX12_hills_12 (fun σ_3 H locs hs G => ?_)
  refine lv_aload_n hx hb dX12_hills_15 rfl (lv_at hl 0 rfl) ?_
  refine lv_iconst (v := 0) hx hb dX12_hills_16 (by decide) ?_
  refine pf_X12_113 C G kd_132 hs dX12_hills_17 (fun σ_4 H locs hs G => ?_)
  refine lv_aload_n hx hb dX12_hills_20 rfl (lv_at hl 0 rfl) ?_
  refine lv_iconst (v := 0) hx hb dX12_hills_21 (by decide) ?_
  refine pf_X12_116 C G kd_132 hs dX12_hills_22 (fun σ_5 H locs hs G => ?_)
  refine lv_aload_n hx hb dX12_hills_25 rfl (lv_at hl 0 rfl) ?_
  refine lv_iconst (v := 0) hx hb dX12_hills_26 (by decide) ?_
  refine pf_X12_119 C G kd_132 hs dX12_hills_27 (fun σ_6 H locs hs G => ?_)
  refine lv_iconst (v := 0) hx hb dX12_hills_30 (by decide) ?_
  refine lv_istore_n (lv' := [(1, .int 0), (0, .ref (b + 132))]) hx hb dX12_hills_31 rfl hl (by decide) rfl (fun ls hl => ?_)
  refine wX12_hills_32 C (fun σ_11 x1_11 H locs ls hs G hl => ?_) FU _ _ _ _ _ hs G (lv_sub hl [1, 0] rfl)
  exact wX12_hills_51 C   hs G (lv_sub hl [0, 1] rfl)
-- X12_fault
def rmX12_fault : Room := { frames := 0, cells := 0, slots := 0, locals := 0 }
def fX12_fault (σ : Sg) : Option (Int32 × Sg) :=
  some ((σ 132 11), σ)
set_option maxRecDepth 100000 in
set_option maxHeartbeats 4000000 in
theorem ctX12_fault (l : Launch) {D : va_G} {cI cZ cO : ClassId} {b : Nat} {σ : Sg} {Rr : (Int32 × Sg)} (hs : fX12_fault σ = some Rr) : MI l yX12_fault cX12_fault 1 (some .int) rmX12_fault [.ref (b + 132)] b D cI cZ cO σ Rr := by
  unfold fX12_fault at hs
  refine metI (by decide +kernel) (Nat.le_of_ble_eq_true rfl) (fun p e s m below meth c ls C G hl => ?_)
  have C : Cx p s m _ meth c cX12_fault RX12 1 (some .int) D cI cZ cO := C
  have hx := C.1
  have hb := C.2.1
  have hl : lv_has ls 1 [(0, .ref (b + 132))] := hl
  refine lv_aload_n hx hb dX12_fault_0 rfl (lv_at hl 0 rfl) ?_
  refine gf_X12_25 C G kd_132 dX12_fault_1 ?_
  exact retI C G hs dX12_fault_4
-- X12_off
def rmX12_off : Room := { frames := 0, cells := 0, slots := 0, locals := 0 }
def fX12_off (σ : Sg) (x1 : Int32) (x2 : Int32) : Option (Int32 × Sg) :=
  (if inb (5 + x1) 60 then lt (σ 136 (5 + x1).toNatClampNeg) (fun x3_2 => (if inb x1 7 then (if (σ 133 x1.toNatClampNeg) = 1 then some ((x3_2 + x2), σ) else (if (σ 133 x1.toNatClampNeg) = 2 then (if (x2 - x2 / 2 * 2) = 0 then some (x3_2, σ) else some (0, σ)) else (if (σ 133 x1.toNatClampNeg) = 3 then some (((2 * x3_2) + ((σ 132 1) / 2)), σ) else some (x3_2, σ)))) else none)) else none)
set_option maxRecDepth 100000 in
set_option maxHeartbeats 4000000 in
theorem ctX12_off (l : Launch) {D : va_G} {cI cZ cO : ClassId} {b : Nat} {σ : Sg} {x1 : Int32} {x2 : Int32} {Rr : (Int32 × Sg)} (hs : fX12_off σ x1 x2 = some Rr) : MI l yX12_off cX12_off 4 (some .int) rmX12_off [.ref (b + 132), .int x1, .int x2] b D cI cZ cO σ Rr := by
  unfold fX12_off at hs
  refine metI (by decide +kernel) (Nat.le_of_ble_eq_true rfl) (fun p e s m below meth c ls C G hl => ?_)
  have C : Cx p s m _ meth c cX12_off RX12 4 (some .int) D cI cZ cO := C
  have hx := C.1
  have hb := C.2.1
  have hl : lv_has ls 4 [(0, .ref (b + 132)), (1, .int x1), (2, .int x2)] := hl
  refine lv_aload_n hx hb dX12_off_0 rfl (lv_at hl 0 rfl) ?_
  refine gf_X12_19 C G kd_132 (n' := 136) rfl dX12_off_1 ?_
  refine lv_iconst (v := 5) hx hb dX12_off_4 (by decide) ?_
  refine lv_iload_n hx hb dX12_off_5 rfl (lv_at hl 1 rfl) ?_
  refine lv_iadd hx hb dX12_off_6 ?_
  obtain ⟨g_1, hs⟩ := gdE hs
  refine m_iald C G kd_136 ln_136 g_1 dX12_off_7 ?_
  refine topI hs (fun x3_2 hs => ?_)
  refine lv_istore_n (lv' := [(3, .int x3_2), (0, .ref (b + 132)), (1, .int x1), (2, .int x2)]) hx hb dX12_off_8 rfl hl (by decide) rfl (fun ls hl => ?_)
  refine lv_aload_n hx hb dX12_off_9 rfl (lv_at hl 1 rfl) ?_
  refine gf_X12_7 C G kd_132 (n' := 133) rfl dX12_off_10 ?_
  refine lv_iload_n hx hb dX12_off_13 rfl (lv_at hl 2 rfl) ?_
  obtain ⟨g_3, hs⟩ := gdE hs
  refine m_iald C G kd_133 ln_133 g_3 dX12_off_14 ?_
  by_cases c_4_1 : (σ 133 x1.toNatClampNeg) = 1
  · replace hs := ifT c_4_1 hs
    refine lv_tableIn (tgt := 40) hx hb dX12_off_15 (by rw [c_4_1]; decide) (by rw [c_4_1]; decide) (by rw [c_4_1]; rfl) (by decide) ?_
    refine lv_iload_n hx hb dX12_off_40 rfl (lv_at hl 0 rfl) ?_
    refine lv_iload_n hx hb dX12_off_41 rfl (lv_at hl 3 rfl) ?_
    refine lv_iadd hx hb dX12_off_42 ?_
    exact retI C G hs dX12_off_43
  · replace hs := ifF c_4_1 hs
    by_cases c_4_2 : (σ 133 x1.toNatClampNeg) = 2
    · replace hs := ifT c_4_2 hs
      refine lv_tableIn (tgt := 44) hx hb dX12_off_15 (by rw [c_4_2]; decide) (by rw [c_4_2]; decide) (by rw [c_4_2]; rfl) (by decide) ?_
      refine lv_iload_n hx hb dX12_off_44 rfl (lv_at hl 3 rfl) ?_
      refine lv_iconst (v := 2) hx hb dX12_off_45 (by decide) ?_
      refine lv_irem hx hb dX12_off_46 (by decide) ?_
      refine lv_if_ne (tgt := 54) hx hb dX12_off_47 (by decide) (fun c_5 => ?_) (fun c_5 => ?_)
      · replace hs := ifF c_5 hs
        refine lv_iconst (v := 0) hx hb dX12_off_54 (by decide) ?_
        exact retI C G hs dX12_off_55
      · replace hs := ifT c_5 hs
        refine lv_iload_n hx hb dX12_off_50 rfl (lv_at hl 0 rfl) ?_
        refine lv_goto (tgt := 55) hx hb dX12_off_51 (by decide) ?_
        exact retI C G hs dX12_off_55
    · replace hs := ifF c_4_2 hs
      by_cases c_4_3 : (σ 133 x1.toNatClampNeg) = 3
      · replace hs := ifT c_4_3 hs
        refine lv_tableIn (tgt := 56) hx hb dX12_off_15 (by rw [c_4_3]; decide) (by rw [c_4_3]; decide) (by rw [c_4_3]; rfl) (by decide) ?_
        refine lv_iconst (v := 2) hx hb dX12_off_56 (by decide) ?_
        refine lv_iload_n hx hb dX12_off_57 rfl (lv_at hl 0 rfl) ?_
        refine lv_imul hx hb dX12_off_58 ?_
        refine lv_aload_n hx hb dX12_off_59 rfl (lv_at hl 1 rfl) ?_
        refine gf_X12_135 C G kd_132 dX12_off_60 ?_
        refine lv_iconst (v := 2) hx hb dX12_off_63 (by decide) ?_
        refine lv_idiv hx hb dX12_off_64 (by decide) ?_
        refine lv_iadd hx hb dX12_off_65 ?_
        exact retI C G hs dX12_off_66
      · replace hs := ifF c_4_3 hs
        refine lv_tableOut (tgt := 67) hx hb dX12_off_15 (by have t0 := tbl_ne c_4_1 (z := 1) (by decide); have t1 := tbl_ne c_4_2 (z := 2) (by decide); have t2 := tbl_ne c_4_3 (z := 3) (by decide); omega) (by decide) ?_
        refine lv_iload_n hx hb dX12_off_67 rfl (lv_at hl 0 rfl) ?_
        exact retI C G hs dX12_off_68
-- X12_bargain
def rmX12_bargain : Room := { frames := 1, cells := 0, slots := 0, locals := 23 }
def fX12_bargain_95 (kh : Sg → Int32 → Int32 → Int32 → Option (Int32 × Sg)) (kx : Sg → Int32 → Option (Int32 × Sg)) (σ : Sg) (x1 : Int32) (x3 : Int32) (x4 : Int32) : Option (Int32 × Sg) :=
  lt (st σ 132 23 ((σ 132 23) + 1)) (fun σ_10 => kh σ_10 x1 x3 x4)
set_option maxRecDepth 100000 in
set_option maxHeartbeats 4000000 in
theorem wX12_bargain_95 {p : Program} {l : Launch} {e : Env} {s : State} {m : MethodId} {args : Array Value} {below : List Frame} {meth : Method} {c : Code} {D : va_G} {cI cZ cO : ClassId} {b : Nat} (C : Cx p s m args meth c cX12_bargain RX12 6 (some .int) D cI cZ cO) {Rr : (Int32 × Sg)} {kh : Sg → Int32 → Int32 → Int32 → Option (Int32 × Sg)} {kx : Sg → Int32 → Option (Int32 × Sg)} (hh : ∀ (σ : Sg) (x1 : Int32) (x3 : Int32) (x4 : Int32) (H : Heap) (locs : List Loc) (ls : Array Slot), kh σ x1 x3 x4 = some Rr → Gd b D cI cZ cO σ s.heap H locs → lv_has ls 6 [(0, .ref (b + 132)), (1, .int x1), (3, .int x3), (4, .int x4)] → W p l e rmX12_bargain s m args below meth c H locs 0 0 (MQ below (QI b D cI cZ cO Rr) args s 0 0 (fun q => b ≤ q)) (F0 m 15 ls [])) (hxx : ∀ (σ : Sg) (x3 : Int32) (H : Heap) (locs : List Loc) (ls : Array Slot), kx σ x3 = some Rr → Gd b D cI cZ cO σ s.heap H locs → lv_has ls 6 [(3, .int x3)] → W p l e rmX12_bargain s m args below meth c H locs 0 0 (MQ below (QI b D cI cZ cO Rr) args s 0 0 (fun q => b ≤ q)) (F0 m 108 ls [])) {σ : Sg} {x1 : Int32} {x3 : Int32} {x4 : Int32} {H : Heap} {locs : List Loc} {ls : Array Slot} (hs : fX12_bargain_95 kh kx σ x1 x3 x4 = some Rr) (G : Gd b D cI cZ cO σ s.heap H locs) (hl : lv_has ls 6 [(0, .ref (b + 132)), (1, .int x1), (3, .int x3), (4, .int x4)]) : W p l e rmX12_bargain s m args below meth c H locs 0 0 (MQ below (QI b D cI cZ cO Rr) args s 0 0 (fun q => b ≤ q)) (F0 m 95 ls []) := by
  have hx := C.1
  have hb := C.2.1
  unfold fX12_bargain_95 at hs
  refine lv_aload_n hx hb dX12_bargain_95 rfl (lv_at hl 0 rfl) ?_
  refine lv_dup hx hb dX12_bargain_96 rfl ?_
  refine gf_X12_153 C G kd_132 dX12_bargain_97 ?_
  refine lv_iconst (v := 1) hx hb dX12_bargain_100 (by decide) ?_
  refine lv_iadd hx hb dX12_bargain_101 ?_
  refine pf_X12_153 C G kd_132 hs dX12_bargain_102 (fun σ_10 H locs hs G => ?_)
  refine lv_goto (tgt := 15) hx hb dX12_bargain_105 (by decide) ?_
  exact hh _ _ _ _ _ _ _ hs G (lv_sub hl [0, 1, 2, 3] rfl)
def fX12_bargain_94 (kh : Sg → Int32 → Int32 → Int32 → Option (Int32 × Sg)) (kx : Sg → Int32 → Option (Int32 × Sg)) (σ : Sg) (x1 : Int32) (x4 : Int32) (y0 : Int32) : Option (Int32 × Sg) :=
  fX12_bargain_95 kh kx σ x1 y0 x4
set_option maxRecDepth 100000 in
set_option maxHeartbeats 4000000 in
theorem wX12_bargain_94 {p : Program} {l : Launch} {e : Env} {s : State} {m : MethodId} {args : Array Value} {below : List Frame} {meth : Method} {c : Code} {D : va_G} {cI cZ cO : ClassId} {b : Nat} (C : Cx p s m args meth c cX12_bargain RX12 6 (some .int) D cI cZ cO) {Rr : (Int32 × Sg)} {kh : Sg → Int32 → Int32 → Int32 → Option (Int32 × Sg)} {kx : Sg → Int32 → Option (Int32 × Sg)} (hh : ∀ (σ : Sg) (x1 : Int32) (x3 : Int32) (x4 : Int32) (H : Heap) (locs : List Loc) (ls : Array Slot), kh σ x1 x3 x4 = some Rr → Gd b D cI cZ cO σ s.heap H locs → lv_has ls 6 [(0, .ref (b + 132)), (1, .int x1), (3, .int x3), (4, .int x4)] → W p l e rmX12_bargain s m args below meth c H locs 0 0 (MQ below (QI b D cI cZ cO Rr) args s 0 0 (fun q => b ≤ q)) (F0 m 15 ls [])) (hxx : ∀ (σ : Sg) (x3 : Int32) (H : Heap) (locs : List Loc) (ls : Array Slot), kx σ x3 = some Rr → Gd b D cI cZ cO σ s.heap H locs → lv_has ls 6 [(3, .int x3)] → W p l e rmX12_bargain s m args below meth c H locs 0 0 (MQ below (QI b D cI cZ cO Rr) args s 0 0 (fun q => b ≤ q)) (F0 m 108 ls [])) {σ : Sg} {x1 : Int32} {x4 : Int32} {y0 : Int32} {H : Heap} {locs : List Loc} {ls : Array Slot} (hs : fX12_bargain_94 kh kx σ x1 x4 y0 = some Rr) (G : Gd b D cI cZ cO σ s.heap H locs) (hl : lv_has ls 6 [(0, .ref (b + 132)), (1, .int x1), (4, .int x4)]) : W p l e rmX12_bargain s m args below meth c H locs 0 0 (MQ below (QI b D cI cZ cO Rr) args s 0 0 (fun q => b ≤ q)) (F0 m 94 ls [.int y0]) := by
  have hx := C.1
  have hb := C.2.1
  unfold fX12_bargain_94 at hs
  refine lv_istore_n (lv' := [(3, .int y0), (0, .ref (b + 132)), (1, .int x1), (4, .int x4)]) hx hb dX12_bargain_94 rfl hl (by decide) rfl (fun ls hl => ?_)
  exact wX12_bargain_95 C  hh hxx hs G (lv_sub hl [1, 2, 0, 3] rfl)
def fX12_bargain_49 (kh : Sg → Int32 → Int32 → Int32 → Option (Int32 × Sg)) (kx : Sg → Int32 → Option (Int32 × Sg)) (σ : Sg) (x1 : Int32) (x4 : Int32) (y0 : Int32) : Option (Int32 × Sg) :=
  lt (x4 + (-1)) (fun x4_8 => (if x4_8 ≤ 0 then fX12_bargain_95 kh kx σ x1 y0 x4_8 else (if y0 ≤ 0 then fX12_bargain_95 kh kx σ x1 y0 x4_8 else (if ((σ 132 23) - (σ 132 23) / 3 * 3) = 2 then (if (y0 + (σ 132 1)) ≤ 99 then fX12_bargain_94 kh kx σ x1 x4_8 (y0 + (σ 132 1)) else fX12_bargain_94 kh kx σ x1 x4_8 99) else fX12_bargain_95 kh kx σ x1 y0 x4_8))))
set_option maxRecDepth 100000 in
set_option maxHeartbeats 4000000 in
theorem wX12_bargain_49 {p : Program} {l : Launch} {e : Env} {s : State} {m : MethodId} {args : Array Value} {below : List Frame} {meth : Method} {c : Code} {D : va_G} {cI cZ cO : ClassId} {b : Nat} (C : Cx p s m args meth c cX12_bargain RX12 6 (some .int) D cI cZ cO) {Rr : (Int32 × Sg)} {kh : Sg → Int32 → Int32 → Int32 → Option (Int32 × Sg)} {kx : Sg → Int32 → Option (Int32 × Sg)} (hh : ∀ (σ : Sg) (x1 : Int32) (x3 : Int32) (x4 : Int32) (H : Heap) (locs : List Loc) (ls : Array Slot), kh σ x1 x3 x4 = some Rr → Gd b D cI cZ cO σ s.heap H locs → lv_has ls 6 [(0, .ref (b + 132)), (1, .int x1), (3, .int x3), (4, .int x4)] → W p l e rmX12_bargain s m args below meth c H locs 0 0 (MQ below (QI b D cI cZ cO Rr) args s 0 0 (fun q => b ≤ q)) (F0 m 15 ls [])) (hxx : ∀ (σ : Sg) (x3 : Int32) (H : Heap) (locs : List Loc) (ls : Array Slot), kx σ x3 = some Rr → Gd b D cI cZ cO σ s.heap H locs → lv_has ls 6 [(3, .int x3)] → W p l e rmX12_bargain s m args below meth c H locs 0 0 (MQ below (QI b D cI cZ cO Rr) args s 0 0 (fun q => b ≤ q)) (F0 m 108 ls [])) {σ : Sg} {x1 : Int32} {x4 : Int32} {y0 : Int32} {H : Heap} {locs : List Loc} {ls : Array Slot} (hs : fX12_bargain_49 kh kx σ x1 x4 y0 = some Rr) (G : Gd b D cI cZ cO σ s.heap H locs) (hl : lv_has ls 6 [(0, .ref (b + 132)), (1, .int x1), (4, .int x4)]) : W p l e rmX12_bargain s m args below meth c H locs 0 0 (MQ below (QI b D cI cZ cO Rr) args s 0 0 (fun q => b ≤ q)) (F0 m 49 ls [.int y0]) := by
  have hx := C.1
  have hb := C.2.1
  unfold fX12_bargain_49 at hs
  refine lv_istore_n (lv' := [(3, .int y0), (0, .ref (b + 132)), (1, .int x1), (4, .int x4)]) hx hb dX12_bargain_49 rfl hl (by decide) rfl (fun ls hl => ?_)
  obtain ⟨x4_8, e_8, hs⟩ := ltE hs
  refine lv_iinc (v := x4_8) (lv' := [(4, .int x4_8), (3, .int y0), (0, .ref (b + 132)), (1, .int x1)]) hx hb dX12_bargain_50 hl (k := 3) rfl (by rw [e_8]; rfl) (by decide) rfl (fun ls hl => ?_)
  refine lv_iload hx hb dX12_bargain_53 (lv_at hl 0 rfl) ?_
  refine lv_if_le (tgt := 95) hx hb dX12_bargain_55 (by decide) (fun c_9 => ?_) (fun c_9 => ?_)
  · replace hs := ifT c_9 hs
    exact wX12_bargain_95 C  hh hxx hs G (lv_sub hl [2, 3, 1, 0] rfl)
  · replace hs := ifF c_9 hs
    refine lv_iload_n hx hb dX12_bargain_58 rfl (lv_at hl 1 rfl) ?_
    refine lv_if_le (tgt := 95) hx hb dX12_bargain_59 (by decide) (fun c_11 => ?_) (fun c_11 => ?_)
    · replace hs := ifT c_11 hs
      exact wX12_bargain_95 C  hh hxx hs G (lv_sub hl [2, 3, 1, 0] rfl)
    · replace hs := ifF c_11 hs
      refine lv_aload_n hx hb dX12_bargain_62 rfl (lv_at hl 2 rfl) ?_
      refine gf_X12_153 C G kd_132 dX12_bargain_63 ?_
      refine lv_iconst (v := 3) hx hb dX12_bargain_66 (by decide) ?_
      refine lv_irem hx hb dX12_bargain_67 (by decide) ?_
      refine lv_iconst (v := 2) hx hb dX12_bargain_68 (by decide) ?_
      refine lv_icmp_ne (tgt := 95) hx hb dX12_bargain_69 (by decide) (fun c_12 => ?_) (fun c_12 => ?_)
      · replace hs := ifF c_12 hs
        exact wX12_bargain_95 C  hh hxx hs G (lv_sub hl [2, 3, 1, 0] rfl)
      · replace hs := ifT c_12 hs
        refine lv_iload_n hx hb dX12_bargain_72 rfl (lv_at hl 1 rfl) ?_
        refine lv_aload_n hx hb dX12_bargain_73 rfl (lv_at hl 2 rfl) ?_
        refine gf_X12_135 C G kd_132 dX12_bargain_74 ?_
        refine lv_iadd hx hb dX12_bargain_77 ?_
        refine lv_bipush (v := 99) hx hb dX12_bargain_78 (by decide) ?_
        refine lv_icmp_le (tgt := 88) hx hb dX12_bargain_80 (by decide) (fun c_13 => ?_) (fun c_13 => ?_)
        · replace hs := ifT c_13 hs
          refine lv_iload_n hx hb dX12_bargain_88 rfl (lv_at hl 1 rfl) ?_
          refine lv_aload_n hx hb dX12_bargain_89 rfl (lv_at hl 2 rfl) ?_
          refine gf_X12_135 C G kd_132 dX12_bargain_90 ?_
          refine lv_iadd hx hb dX12_bargain_93 ?_
          exact wX12_bargain_94 C  hh hxx hs G (lv_sub hl [2, 3, 0] rfl)
        · replace hs := ifF c_13 hs
          refine lv_bipush (v := 99) hx hb dX12_bargain_83 (by decide) ?_
          refine lv_goto (tgt := 94) hx hb dX12_bargain_85 (by decide) ?_
          exact wX12_bargain_94 C  hh hxx hs G (lv_sub hl [2, 3, 0] rfl)
def fX12_bargain_15b (kh : Sg → Int32 → Int32 → Int32 → Option (Int32 × Sg)) (kx : Sg → Int32 → Option (Int32 × Sg)) (σ : Sg) (x1 : Int32) (x3 : Int32) (x4 : Int32) : Option (Int32 × Sg) :=
  (if x3 ≤ 0 then kx σ x3 else (if x4 ≤ 0 then kx σ x3 else bi (fX12_off σ x1 (σ 132 23)) (fun r_6 σ_6 => (if x3 ≤ r_6 then fX12_bargain_49 kh kx σ_6 x1 x4 0 else fX12_bargain_49 kh kx σ_6 x1 x4 (x3 - r_6)))))
set_option maxRecDepth 100000 in
set_option maxHeartbeats 4000000 in
theorem wX12_bargain_15b {p : Program} {l : Launch} {e : Env} {s : State} {m : MethodId} {args : Array Value} {below : List Frame} {meth : Method} {c : Code} {D : va_G} {cI cZ cO : ClassId} {b : Nat} (C : Cx p s m args meth c cX12_bargain RX12 6 (some .int) D cI cZ cO) {Rr : (Int32 × Sg)} {kh : Sg → Int32 → Int32 → Int32 → Option (Int32 × Sg)} {kx : Sg → Int32 → Option (Int32 × Sg)} (hh : ∀ (σ : Sg) (x1 : Int32) (x3 : Int32) (x4 : Int32) (H : Heap) (locs : List Loc) (ls : Array Slot), kh σ x1 x3 x4 = some Rr → Gd b D cI cZ cO σ s.heap H locs → lv_has ls 6 [(0, .ref (b + 132)), (1, .int x1), (3, .int x3), (4, .int x4)] → W p l e rmX12_bargain s m args below meth c H locs 0 0 (MQ below (QI b D cI cZ cO Rr) args s 0 0 (fun q => b ≤ q)) (F0 m 15 ls [])) (hxx : ∀ (σ : Sg) (x3 : Int32) (H : Heap) (locs : List Loc) (ls : Array Slot), kx σ x3 = some Rr → Gd b D cI cZ cO σ s.heap H locs → lv_has ls 6 [(3, .int x3)] → W p l e rmX12_bargain s m args below meth c H locs 0 0 (MQ below (QI b D cI cZ cO Rr) args s 0 0 (fun q => b ≤ q)) (F0 m 108 ls [])) {σ : Sg} {x1 : Int32} {x3 : Int32} {x4 : Int32} {H : Heap} {locs : List Loc} {ls : Array Slot} (hs : fX12_bargain_15b kh kx σ x1 x3 x4 = some Rr) (G : Gd b D cI cZ cO σ s.heap H locs) (hl : lv_has ls 6 [(0, .ref (b + 132)), (1, .int x1), (3, .int x3), (4, .int x4)]) : W p l e rmX12_bargain s m args below meth c H locs 0 0 (MQ below (QI b D cI cZ cO Rr) args s 0 0 (fun q => b ≤ q)) (F0 m 15 ls []) := by
  have hx := C.1
  have hb := C.2.1
  unfold fX12_bargain_15b at hs
  refine lv_iload_n hx hb dX12_bargain_15 rfl (lv_at hl 2 rfl) ?_
  refine lv_if_le (tgt := 108) hx hb dX12_bargain_16 (by decide) (fun c_4 => ?_) (fun c_4 => ?_)
  · replace hs := ifT c_4 hs
    exact hxx _ _ _ _ _ hs G (lv_sub hl [2] rfl)
  · replace hs := ifF c_4 hs
    refine lv_iload hx hb dX12_bargain_19 (lv_at hl 3 rfl) ?_
    refine lv_if_le (tgt := 108) hx hb dX12_bargain_21 (by decide) (fun c_5 => ?_) (fun c_5 => ?_)
    · replace hs := ifT c_5 hs
      exact hxx _ _ _ _ _ hs G (lv_sub hl [2] rfl)
    · replace hs := ifF c_5 hs
      refine lv_aload_n hx hb dX12_bargain_24 rfl (lv_at hl 0 rfl) ?_
      refine lv_iload_n hx hb dX12_bargain_25 rfl (lv_at hl 1 rfl) ?_
      refine lv_aload_n hx hb dX12_bargain_26 rfl (lv_at hl 0 rfl) ?_
      refine gf_X12_153 C G kd_132 dX12_bargain_27 ?_
      obtain ⟨r_6, σ_6, hc, hs⟩ := biE hs
      refine callVI (ar := 2) (As := [.int x1, .int (σ 132 23)]) (rest := []) C G hl.1 (ctX12_off _  hc) ⟨wd_1120, wd_1122, wd_51, wd_81, wd_1123⟩ (by decide +kernel) rfl ⟨rfl, rfl⟩ ⟨Nat.le_of_ble_eq_true rfl, Nat.le_of_ble_eq_true rfl⟩ (kd_lt kd_132 (by decide)) (ent_12 b cI cZ cO _ kd_132) rfl (Nat.le_of_ble_eq_true rfl) ⟨Nat.le_of_ble_eq_true rfl, Nat.le_of_ble_eq_true rfl⟩ dX12_bargain_30 rfl (fun H locs G => ?_)
      refine lv_istore (lv' := [(5, .int r_6), (0, .ref (b + 132)), (1, .int x1), (3, .int x3), (4, .int x4)]) hx hb dX12_bargain_33 hl (by decide) rfl (fun ls hl => ?_)
      refine lv_iload_n hx hb dX12_bargain_35 rfl (lv_at hl 3 rfl) ?_
      refine lv_iload hx hb dX12_bargain_36 (lv_at hl 0 rfl) ?_
      refine lv_icmp_le (tgt := 48) hx hb dX12_bargain_38 (by decide) (fun c_7 => ?_) (fun c_7 => ?_)
      · replace hs := ifT c_7 hs
        refine lv_iconst (v := 0) hx hb dX12_bargain_48 (by decide) ?_
        exact wX12_bargain_49 C  hh hxx hs G (lv_sub hl [1, 2, 4] rfl)
      · replace hs := ifF c_7 hs
        refine lv_iload_n hx hb dX12_bargain_41 rfl (lv_at hl 3 rfl) ?_
        refine lv_iload hx hb dX12_bargain_42 (lv_at hl 0 rfl) ?_
        refine lv_isub hx hb dX12_bargain_44 ?_
        refine lv_goto (tgt := 49) hx hb dX12_bargain_45 (by decide) ?_
        exact wX12_bargain_49 C  hh hxx hs G (lv_sub hl [1, 2, 4] rfl)
def fX12_bargain_15 : Nat → (Sg → Int32 → Option (Int32 × Sg)) → Sg → Int32 → Int32 → Int32 → Option (Int32 × Sg)
  | 0, _, _, _, _, _ => none
  | fu + 1, kx, σ, x1, x3, x4 => fX12_bargain_15b (fX12_bargain_15 fu kx) kx σ x1 x3 x4
theorem fX12_bargain_15_s (fu : Nat) (kx : Sg → Int32 → Option (Int32 × Sg)) (σ : Sg) (x1 : Int32) (x3 : Int32) (x4 : Int32) : fX12_bargain_15 (fu + 1) kx σ x1 x3 x4 = fX12_bargain_15b (fX12_bargain_15 fu kx) kx σ x1 x3 x4 := by rw [fX12_bargain_15]
theorem wX12_bargain_15 {p : Program} {l : Launch} {e : Env} {s : State} {m : MethodId} {args : Array Value} {below : List Frame} {meth : Method} {c : Code} {D : va_G} {cI cZ cO : ClassId} {b : Nat} (C : Cx p s m args meth c cX12_bargain RX12 6 (some .int) D cI cZ cO) {Rr : (Int32 × Sg)} {kx : Sg → Int32 → Option (Int32 × Sg)} (hxx : ∀ (σ : Sg) (x3 : Int32) (H : Heap) (locs : List Loc) (ls : Array Slot), kx σ x3 = some Rr → Gd b D cI cZ cO σ s.heap H locs → lv_has ls 6 [(3, .int x3)] → W p l e rmX12_bargain s m args below meth c H locs 0 0 (MQ below (QI b D cI cZ cO Rr) args s 0 0 (fun q => b ≤ q)) (F0 m 108 ls [])) : ∀ (fu : Nat) (σ : Sg) (x1 : Int32) (x3 : Int32) (x4 : Int32) (H : Heap) (locs : List Loc) (ls : Array Slot), fX12_bargain_15 fu kx σ x1 x3 x4 = some Rr → Gd b D cI cZ cO σ s.heap H locs → lv_has ls 6 [(0, .ref (b + 132)), (1, .int x1), (3, .int x3), (4, .int x4)] → W p l e rmX12_bargain s m args below meth c H locs 0 0 (MQ below (QI b D cI cZ cO Rr) args s 0 0 (fun q => b ≤ q)) (F0 m 15 ls []) := by
  intro fu
  induction fu with
  | zero => intro σ x1 x3 x4 H locs ls hs; cases hs
  | succ fu ih =>
    intro σ x1 x3 x4 H locs ls hs G hl
    exact wX12_bargain_15b C (fun σ x1 x3 x4 H locs ls hs G hl => ih σ x1 x3 x4 H locs ls hs G hl) hxx hs G hl
def fX12_bargain_108 (σ : Sg) (x3 : Int32) : Option (Int32 × Sg) :=
  some (x3, σ)
set_option maxRecDepth 100000 in
set_option maxHeartbeats 4000000 in
theorem wX12_bargain_108 {p : Program} {l : Launch} {e : Env} {s : State} {m : MethodId} {args : Array Value} {below : List Frame} {meth : Method} {c : Code} {D : va_G} {cI cZ cO : ClassId} {b : Nat} (C : Cx p s m args meth c cX12_bargain RX12 6 (some .int) D cI cZ cO) {Rr : (Int32 × Sg)} {σ : Sg} {x3 : Int32} {H : Heap} {locs : List Loc} {ls : Array Slot} (hs : fX12_bargain_108 σ x3 = some Rr) (G : Gd b D cI cZ cO σ s.heap H locs) (hl : lv_has ls 6 [(3, .int x3)]) : W p l e rmX12_bargain s m args below meth c H locs 0 0 (MQ below (QI b D cI cZ cO Rr) args s 0 0 (fun q => b ≤ q)) (F0 m 108 ls []) := by
  have hx := C.1
  have hb := C.2.1
  unfold fX12_bargain_108 at hs
  refine lv_iload_n hx hb dX12_bargain_108 rfl (lv_at hl 0 rfl) ?_
  exact retI C G hs dX12_bargain_109
def fX12_bargain (σ : Sg) (x1 : Int32) (x2 : Int32) : Option (Int32 × Sg) :=
  (if inb 0 60 then lt (σ 136 (0 : Int32).toNatClampNeg) (fun x4_2 => lt (st σ 132 23 0) (fun σ_3 => fX12_bargain_15 FU (fun σ_14 x3_14 => fX12_bargain_108 σ_14 x3_14) σ_3 x1 x2 x4_2)) else none)
set_option maxRecDepth 100000 in
set_option maxHeartbeats 4000000 in
theorem ctX12_bargain (l : Launch) {D : va_G} {cI cZ cO : ClassId} {b : Nat} {σ : Sg} {x1 : Int32} {x2 : Int32} {Rr : (Int32 × Sg)} (hs : fX12_bargain σ x1 x2 = some Rr) : MI l yX12_bargain cX12_bargain 6 (some .int) rmX12_bargain [.ref (b + 132), .int x1, .int x2] b D cI cZ cO σ Rr := by
  unfold fX12_bargain at hs
  refine metI (by decide +kernel) (Nat.le_of_ble_eq_true rfl) (fun p e s m below meth c ls C G hl => ?_)
  have C : Cx p s m _ meth c cX12_bargain RX12 6 (some .int) D cI cZ cO := C
  have hx := C.1
  have hb := C.2.1
  have hl : lv_has ls 6 [(0, .ref (b + 132)), (1, .int x1), (2, .int x2)] := hl
  refine lv_iload_n hx hb dX12_bargain_0 rfl (lv_at hl 2 rfl) ?_
  refine lv_istore_n (lv' := [(3, .int x2), (0, .ref (b + 132)), (1, .int x1), (2, .int x2)]) hx hb dX12_bargain_1 rfl hl (by decide) rfl (fun ls hl => ?_)
  refine lv_aload_n hx hb dX12_bargain_2 rfl (lv_at hl 1 rfl) ?_
  refine gf_X12_19 C G kd_132 (n' := 136) rfl dX12_bargain_3 ?_
  refine lv_iconst (v := 0) hx hb dX12_bargain_6 (by decide) ?_
  obtain ⟨g_1, hs⟩ := gdE hs
  refine m_iald C G kd_136 ln_136 g_1 dX12_bargain_7 ?_
  refine topI hs (fun x4_2 hs => ?_)
  refine lv_istore (lv' := [(4, .int x4_2), (3, .int x2), (0, .ref (b + 132)), (1, .int x1), (2, .int x2)]) hx hb dX12_bargain_8 hl (by decide) rfl (fun ls hl => ?_)
  refine lv_aload_n hx hb dX12_bargain_10 rfl (lv_at hl 2 rfl) ?_
  refine lv_iconst (v := 0) hx hb dX12_bargain_11 (by decide) ?_
  refine pf_X12_153 C G kd_132 hs dX12_bargain_12 (fun σ_3 H locs hs G => ?_)
  refine wX12_bargain_15 C (fun σ_14 x3_14 H locs ls hs G hl => ?_) FU _ _ _ _ _ _ _ hs G (lv_sub hl [2, 3, 1, 0] rfl)
  exact wX12_bargain_108 C   hs G (lv_sub hl [0] rfl)
