-- X12_layLeast
def rmX12_layLeast : Room := { frames := 3, cells := 0, slots := 0, locals := 70 }
def fX12_layLeast_9b (kh : Sg → Int32 → Int32 → Option Sg) (kx : Sg → Int32 → Option Sg) (σ : Sg) (x1 : Int32) (x2 : Int32) : Option Sg :=
  (if x1 ≤ x2 then kx σ x1 else (if inb ((128 * (σ 132 3)) + x2) 1024 then lt (st σ 144 ((128 * (σ 132 3)) + x2).toNatClampNeg 0) (fun σ_3 => lt (x2 + 1) (fun x2_4 => kh σ_3 x1 x2_4)) else none))
set_option maxRecDepth 100000 in
set_option maxHeartbeats 4000000 in
theorem wX12_layLeast_9b {p : Program} {l : Launch} {e : Env} {s : State} {m : MethodId} {args : Array Value} {below : List Frame} {meth : Method} {c : Code} {D : va_G} {cI cZ cO : ClassId} {b : Nat} (C : Cx p s m args meth c cX12_layLeast RX12 7 none D cI cZ cO) {Rr : Sg} {kh : Sg → Int32 → Int32 → Option Sg} {kx : Sg → Int32 → Option Sg} (hh : ∀ (σ : Sg) (x1 : Int32) (x2 : Int32) (H : Heap) (locs : List Loc) (ls : Array Slot), kh σ x1 x2 = some Rr → Gd b D cI cZ cO σ s.heap H locs → lv_has ls 7 [(0, .ref (b + 132)), (1, .int x1), (2, .int x2)] → W p l e rmX12_layLeast s m args below meth c H locs 0 0 (MQ below (QV b D cI cZ cO Rr) args s 0 0 (fun q => b ≤ q)) (F0 m 9 ls [])) (hxx : ∀ (σ : Sg) (x1 : Int32) (H : Heap) (locs : List Loc) (ls : Array Slot), kx σ x1 = some Rr → Gd b D cI cZ cO σ s.heap H locs → lv_has ls 7 [(0, .ref (b + 132)), (1, .int x1)] → W p l e rmX12_layLeast s m args below meth c H locs 0 0 (MQ below (QV b D cI cZ cO Rr) args s 0 0 (fun q => b ≤ q)) (F0 m 36 ls [])) {σ : Sg} {x1 : Int32} {x2 : Int32} {H : Heap} {locs : List Loc} {ls : Array Slot} (hs : fX12_layLeast_9b kh kx σ x1 x2 = some Rr) (G : Gd b D cI cZ cO σ s.heap H locs) (hl : lv_has ls 7 [(0, .ref (b + 132)), (1, .int x1), (2, .int x2)]) : W p l e rmX12_layLeast s m args below meth c H locs 0 0 (MQ below (QV b D cI cZ cO Rr) args s 0 0 (fun q => b ≤ q)) (F0 m 9 ls []) := by
  have hx := C.1
  have hb := C.2.1
  unfold fX12_layLeast_9b at hs
  refine lv_iload_n hx hb dX12_layLeast_9 rfl (lv_at hl 2 rfl) ?_
  refine lv_iload_n hx hb dX12_layLeast_10 rfl (lv_at hl 1 rfl) ?_
  refine lv_icmp_ge (tgt := 36) hx hb dX12_layLeast_11 (by decide) (fun c_2 => ?_) (fun c_2 => ?_)
  · replace hs := ifT c_2 hs
    exact hxx _ _ _ _ _ hs G (lv_sub hl [0, 1] rfl)
  · replace hs := ifF c_2 hs
    refine lv_aload_n hx hb dX12_layLeast_14 rfl (lv_at hl 0 rfl) ?_
    refine gf_X12_47 C G kd_132 (n' := 144) rfl dX12_layLeast_15 ?_
    refine lv_sipush (v := 128) hx hb dX12_layLeast_18 (by decide) ?_
    refine lv_aload_n hx hb dX12_layLeast_21 rfl (lv_at hl 0 rfl) ?_
    refine gf_X12_72 C G kd_132 dX12_layLeast_22 ?_
    refine lv_imul hx hb dX12_layLeast_25 ?_
    refine lv_iload_n hx hb dX12_layLeast_26 rfl (lv_at hl 2 rfl) ?_
    refine lv_iadd hx hb dX12_layLeast_27 ?_
    refine lv_iconst (v := 0) hx hb dX12_layLeast_28 (by decide) ?_
    obtain ⟨g_3, hs⟩ := gdE hs
    refine m_iast C G kd_144 ln_144 g_3 hs dX12_layLeast_29 (fun σ_3 H locs hs G => ?_)
    obtain ⟨x2_4, e_4, hs⟩ := ltE hs
    refine lv_iinc (v := x2_4) (lv' := [(2, .int x2_4), (0, .ref (b + 132)), (1, .int x1)]) hx hb dX12_layLeast_30 hl (k := 2) rfl (by rw [e_4]; rfl) (by decide) rfl (fun ls hl => ?_)
    refine lv_goto (tgt := 9) hx hb dX12_layLeast_33 (by decide) ?_
    exact hh _ _ _ _ _ _ hs G (lv_sub hl [1, 2, 0] rfl)
def fX12_layLeast_9 : Nat → (Sg → Int32 → Option Sg) → Sg → Int32 → Int32 → Option Sg
  | 0, _, _, _, _ => none
  | fu + 1, kx, σ, x1, x2 => fX12_layLeast_9b (fX12_layLeast_9 fu kx) kx σ x1 x2
theorem fX12_layLeast_9_s (fu : Nat) (kx : Sg → Int32 → Option Sg) (σ : Sg) (x1 : Int32) (x2 : Int32) : fX12_layLeast_9 (fu + 1) kx σ x1 x2 = fX12_layLeast_9b (fX12_layLeast_9 fu kx) kx σ x1 x2 := by rw [fX12_layLeast_9]
theorem wX12_layLeast_9 {p : Program} {l : Launch} {e : Env} {s : State} {m : MethodId} {args : Array Value} {below : List Frame} {meth : Method} {c : Code} {D : va_G} {cI cZ cO : ClassId} {b : Nat} (C : Cx p s m args meth c cX12_layLeast RX12 7 none D cI cZ cO) {Rr : Sg} {kx : Sg → Int32 → Option Sg} (hxx : ∀ (σ : Sg) (x1 : Int32) (H : Heap) (locs : List Loc) (ls : Array Slot), kx σ x1 = some Rr → Gd b D cI cZ cO σ s.heap H locs → lv_has ls 7 [(0, .ref (b + 132)), (1, .int x1)] → W p l e rmX12_layLeast s m args below meth c H locs 0 0 (MQ below (QV b D cI cZ cO Rr) args s 0 0 (fun q => b ≤ q)) (F0 m 36 ls [])) : ∀ (fu : Nat) (σ : Sg) (x1 : Int32) (x2 : Int32) (H : Heap) (locs : List Loc) (ls : Array Slot), fX12_layLeast_9 fu kx σ x1 x2 = some Rr → Gd b D cI cZ cO σ s.heap H locs → lv_has ls 7 [(0, .ref (b + 132)), (1, .int x1), (2, .int x2)] → W p l e rmX12_layLeast s m args below meth c H locs 0 0 (MQ below (QV b D cI cZ cO Rr) args s 0 0 (fun q => b ≤ q)) (F0 m 9 ls []) := by
  intro fu
  induction fu with
  | zero => intro σ x1 x2 H locs ls hs; cases hs
  | succ fu ih =>
    intro σ x1 x2 H locs ls hs G hl
    exact wX12_layLeast_9b C (fun σ x1 x2 H locs ls hs G hl => ih σ x1 x2 H locs ls hs G hl) hxx hs G hl
def fX12_layLeast_158 (kh : Sg → Int32 → Int32 → Int32 → Int32 → Int32 → Option Sg) (kx : Sg → Int32 → Int32 → Int32 → Int32 → Option Sg) (σ : Sg) (x1 : Int32) (x2 : Int32) (x3 : Int32) (x4 : Int32) (x5 : Int32) : Option Sg :=
  lt (x5 + 1) (fun x5_17 => kh σ x1 x2 x3 x4 x5_17)
set_option maxRecDepth 100000 in
set_option maxHeartbeats 4000000 in
theorem wX12_layLeast_158 {p : Program} {l : Launch} {e : Env} {s : State} {m : MethodId} {args : Array Value} {below : List Frame} {meth : Method} {c : Code} {D : va_G} {cI cZ cO : ClassId} {b : Nat} (C : Cx p s m args meth c cX12_layLeast RX12 7 none D cI cZ cO) {Rr : Sg} {kh : Sg → Int32 → Int32 → Int32 → Int32 → Int32 → Option Sg} {kx : Sg → Int32 → Int32 → Int32 → Int32 → Option Sg} (hh : ∀ (σ : Sg) (x1 : Int32) (x2 : Int32) (x3 : Int32) (x4 : Int32) (x5 : Int32) (H : Heap) (locs : List Loc) (ls : Array Slot), kh σ x1 x2 x3 x4 x5 = some Rr → Gd b D cI cZ cO σ s.heap H locs → lv_has ls 7 [(0, .ref (b + 132)), (1, .int x1), (2, .int x2), (3, .int x3), (4, .int x4), (5, .int x5)] → W p l e rmX12_layLeast s m args below meth c H locs 0 0 (MQ below (QV b D cI cZ cO Rr) args s 0 0 (fun q => b ≤ q)) (F0 m 83 ls [])) (hxx : ∀ (σ : Sg) (x1 : Int32) (x2 : Int32) (x3 : Int32) (x4 : Int32) (H : Heap) (locs : List Loc) (ls : Array Slot), kx σ x1 x2 x3 x4 = some Rr → Gd b D cI cZ cO σ s.heap H locs → lv_has ls 7 [(0, .ref (b + 132)), (1, .int x1), (2, .int x2), (3, .int x3), (4, .int x4)] → W p l e rmX12_layLeast s m args below meth c H locs 0 0 (MQ below (QV b D cI cZ cO Rr) args s 0 0 (fun q => b ≤ q)) (F0 m 164 ls [])) {σ : Sg} {x1 : Int32} {x2 : Int32} {x3 : Int32} {x4 : Int32} {x5 : Int32} {H : Heap} {locs : List Loc} {ls : Array Slot} (hs : fX12_layLeast_158 kh kx σ x1 x2 x3 x4 x5 = some Rr) (G : Gd b D cI cZ cO σ s.heap H locs) (hl : lv_has ls 7 [(0, .ref (b + 132)), (1, .int x1), (2, .int x2), (3, .int x3), (4, .int x4), (5, .int x5)]) : W p l e rmX12_layLeast s m args below meth c H locs 0 0 (MQ below (QV b D cI cZ cO Rr) args s 0 0 (fun q => b ≤ q)) (F0 m 158 ls []) := by
  have hx := C.1
  have hb := C.2.1
  unfold fX12_layLeast_158 at hs
  obtain ⟨x5_17, e_17, hs⟩ := ltE hs
  refine lv_iinc (v := x5_17) (lv' := [(5, .int x5_17), (0, .ref (b + 132)), (1, .int x1), (2, .int x2), (3, .int x3), (4, .int x4)]) hx hb dX12_layLeast_158 hl (k := 5) rfl (by rw [e_17]; rfl) (by decide) rfl (fun ls hl => ?_)
  refine lv_goto (tgt := 83) hx hb dX12_layLeast_161 (by decide) ?_
  exact hh _ _ _ _ _ _ _ _ _ hs G (lv_sub hl [1, 2, 3, 4, 5, 0] rfl)
def fX12_layLeast_156 (kh : Sg → Int32 → Int32 → Int32 → Int32 → Int32 → Option Sg) (kx : Sg → Int32 → Int32 → Int32 → Int32 → Option Sg) (σ : Sg) (x1 : Int32) (x2 : Int32) (x3 : Int32) (x5 : Int32) (y0 : Int32) : Option Sg :=
  fX12_layLeast_158 kh kx σ x1 x2 x3 y0 x5
set_option maxRecDepth 100000 in
set_option maxHeartbeats 4000000 in
theorem wX12_layLeast_156 {p : Program} {l : Launch} {e : Env} {s : State} {m : MethodId} {args : Array Value} {below : List Frame} {meth : Method} {c : Code} {D : va_G} {cI cZ cO : ClassId} {b : Nat} (C : Cx p s m args meth c cX12_layLeast RX12 7 none D cI cZ cO) {Rr : Sg} {kh : Sg → Int32 → Int32 → Int32 → Int32 → Int32 → Option Sg} {kx : Sg → Int32 → Int32 → Int32 → Int32 → Option Sg} (hh : ∀ (σ : Sg) (x1 : Int32) (x2 : Int32) (x3 : Int32) (x4 : Int32) (x5 : Int32) (H : Heap) (locs : List Loc) (ls : Array Slot), kh σ x1 x2 x3 x4 x5 = some Rr → Gd b D cI cZ cO σ s.heap H locs → lv_has ls 7 [(0, .ref (b + 132)), (1, .int x1), (2, .int x2), (3, .int x3), (4, .int x4), (5, .int x5)] → W p l e rmX12_layLeast s m args below meth c H locs 0 0 (MQ below (QV b D cI cZ cO Rr) args s 0 0 (fun q => b ≤ q)) (F0 m 83 ls [])) (hxx : ∀ (σ : Sg) (x1 : Int32) (x2 : Int32) (x3 : Int32) (x4 : Int32) (H : Heap) (locs : List Loc) (ls : Array Slot), kx σ x1 x2 x3 x4 = some Rr → Gd b D cI cZ cO σ s.heap H locs → lv_has ls 7 [(0, .ref (b + 132)), (1, .int x1), (2, .int x2), (3, .int x3), (4, .int x4)] → W p l e rmX12_layLeast s m args below meth c H locs 0 0 (MQ below (QV b D cI cZ cO Rr) args s 0 0 (fun q => b ≤ q)) (F0 m 164 ls [])) {σ : Sg} {x1 : Int32} {x2 : Int32} {x3 : Int32} {x5 : Int32} {y0 : Int32} {H : Heap} {locs : List Loc} {ls : Array Slot} (hs : fX12_layLeast_156 kh kx σ x1 x2 x3 x5 y0 = some Rr) (G : Gd b D cI cZ cO σ s.heap H locs) (hl : lv_has ls 7 [(0, .ref (b + 132)), (1, .int x1), (2, .int x2), (3, .int x3), (5, .int x5)]) : W p l e rmX12_layLeast s m args below meth c H locs 0 0 (MQ below (QV b D cI cZ cO Rr) args s 0 0 (fun q => b ≤ q)) (F0 m 156 ls [.int y0]) := by
  have hx := C.1
  have hb := C.2.1
  unfold fX12_layLeast_156 at hs
  refine lv_istore (lv' := [(4, .int y0), (0, .ref (b + 132)), (1, .int x1), (2, .int x2), (3, .int x3), (5, .int x5)]) hx hb dX12_layLeast_156 hl (by decide) rfl (fun ls hl => ?_)
  exact wX12_layLeast_158 C  hh hxx hs G (lv_sub hl [1, 2, 3, 4, 0, 5] rfl)
def fX12_layLeast_83b (kh : Sg → Int32 → Int32 → Int32 → Int32 → Int32 → Option Sg) (kx : Sg → Int32 → Int32 → Int32 → Int32 → Option Sg) (σ : Sg) (x1 : Int32) (x2 : Int32) (x3 : Int32) (x4 : Int32) (x5 : Int32) : Option Sg :=
  (if (σ 132 3) ≤ x5 then kx σ x1 x2 x3 x4 else (if inb (12 + x2) 60 then (if (σ 136 (12 + x2).toNatClampNeg) ≤ 0 then kx σ x1 x2 x3 x4 else bi (fX12_has σ x3 x5) (fun r_15 σ_15 => (if r_15 = 0 then bi (fX12_leftBy σ_15 x2 x5) (fun r_18 σ_18 => (if inb ((128 * (x2 + 1)) + (x3 ||| ((1 : Int32) <<< (x5 &&& 31)))) 1024 then lt (r_18 + (σ_18 144 ((128 * (x2 + 1)) + (x3 ||| ((1 : Int32) <<< (x5 &&& 31)))).toNatClampNeg)) (fun x6_20 => (if x4 ≤ x6_20 then fX12_layLeast_156 kh kx σ_18 x1 x2 x3 x5 x4 else fX12_layLeast_156 kh kx σ_18 x1 x2 x3 x5 x6_20)) else none)) else fX12_layLeast_158 kh kx σ_15 x1 x2 x3 x4 x5))) else none))
set_option maxRecDepth 100000 in
set_option maxHeartbeats 4000000 in
theorem wX12_layLeast_83b {p : Program} {l : Launch} {e : Env} {s : State} {m : MethodId} {args : Array Value} {below : List Frame} {meth : Method} {c : Code} {D : va_G} {cI cZ cO : ClassId} {b : Nat} (C : Cx p s m args meth c cX12_layLeast RX12 7 none D cI cZ cO) {Rr : Sg} {kh : Sg → Int32 → Int32 → Int32 → Int32 → Int32 → Option Sg} {kx : Sg → Int32 → Int32 → Int32 → Int32 → Option Sg} (hh : ∀ (σ : Sg) (x1 : Int32) (x2 : Int32) (x3 : Int32) (x4 : Int32) (x5 : Int32) (H : Heap) (locs : List Loc) (ls : Array Slot), kh σ x1 x2 x3 x4 x5 = some Rr → Gd b D cI cZ cO σ s.heap H locs → lv_has ls 7 [(0, .ref (b + 132)), (1, .int x1), (2, .int x2), (3, .int x3), (4, .int x4), (5, .int x5)] → W p l e rmX12_layLeast s m args below meth c H locs 0 0 (MQ below (QV b D cI cZ cO Rr) args s 0 0 (fun q => b ≤ q)) (F0 m 83 ls [])) (hxx : ∀ (σ : Sg) (x1 : Int32) (x2 : Int32) (x3 : Int32) (x4 : Int32) (H : Heap) (locs : List Loc) (ls : Array Slot), kx σ x1 x2 x3 x4 = some Rr → Gd b D cI cZ cO σ s.heap H locs → lv_has ls 7 [(0, .ref (b + 132)), (1, .int x1), (2, .int x2), (3, .int x3), (4, .int x4)] → W p l e rmX12_layLeast s m args below meth c H locs 0 0 (MQ below (QV b D cI cZ cO Rr) args s 0 0 (fun q => b ≤ q)) (F0 m 164 ls [])) {σ : Sg} {x1 : Int32} {x2 : Int32} {x3 : Int32} {x4 : Int32} {x5 : Int32} {H : Heap} {locs : List Loc} {ls : Array Slot} (hs : fX12_layLeast_83b kh kx σ x1 x2 x3 x4 x5 = some Rr) (G : Gd b D cI cZ cO σ s.heap H locs) (hl : lv_has ls 7 [(0, .ref (b + 132)), (1, .int x1), (2, .int x2), (3, .int x3), (4, .int x4), (5, .int x5)]) : W p l e rmX12_layLeast s m args below meth c H locs 0 0 (MQ below (QV b D cI cZ cO Rr) args s 0 0 (fun q => b ≤ q)) (F0 m 83 ls []) := by
  have hx := C.1
  have hb := C.2.1
  unfold fX12_layLeast_83b at hs
  refine lv_iload hx hb dX12_layLeast_83 (lv_at hl 5 rfl) ?_
  refine lv_aload_n hx hb dX12_layLeast_85 rfl (lv_at hl 0 rfl) ?_
  refine gf_X12_72 C G kd_132 dX12_layLeast_86 ?_
  refine lv_icmp_ge (tgt := 164) hx hb dX12_layLeast_89 (by decide) (fun c_12 => ?_) (fun c_12 => ?_)
  · replace hs := ifT c_12 hs
    exact hxx _ _ _ _ _ _ _ _ hs G (lv_sub hl [0, 1, 2, 3, 4] rfl)
  · replace hs := ifF c_12 hs
    refine lv_aload_n hx hb dX12_layLeast_92 rfl (lv_at hl 0 rfl) ?_
    refine gf_X12_19 C G kd_132 (n' := 136) rfl dX12_layLeast_93 ?_
    refine lv_bipush (v := 12) hx hb dX12_layLeast_96 (by decide) ?_
    refine lv_iload_n hx hb dX12_layLeast_98 rfl (lv_at hl 2 rfl) ?_
    refine lv_iadd hx hb dX12_layLeast_99 ?_
    obtain ⟨g_13, hs⟩ := gdE hs
    refine m_iald C G kd_136 ln_136 g_13 dX12_layLeast_100 ?_
    refine lv_if_le (tgt := 164) hx hb dX12_layLeast_101 (by decide) (fun c_14 => ?_) (fun c_14 => ?_)
    · replace hs := ifT c_14 hs
      exact hxx _ _ _ _ _ _ _ _ hs G (lv_sub hl [0, 1, 2, 3, 4] rfl)
    · replace hs := ifF c_14 hs
      refine lv_iload_n hx hb dX12_layLeast_104 rfl (lv_at hl 3 rfl) ?_
      refine lv_iload hx hb dX12_layLeast_105 (lv_at hl 5 rfl) ?_
      obtain ⟨r_15, σ_15, hc, hs⟩ := biE hs
      refine callSI (ar := 2) (As := [.int x3, .int x5]) (rest := []) C G hl.1 (ctX12_has _  hc) ⟨wd_1069, wd_1070, wd_81, wd_1071⟩ (by decide +kernel) rfl ⟨rfl, rfl⟩ ⟨Nat.le_of_ble_eq_true rfl, Nat.le_of_ble_eq_true rfl⟩ (Nat.le_of_ble_eq_true rfl) ⟨Nat.le_of_ble_eq_true rfl, Nat.le_of_ble_eq_true rfl⟩ dX12_layLeast_107 rfl (fun H locs G => ?_)
      refine lv_if_ne (tgt := 158) hx hb dX12_layLeast_110 (by decide) (fun c_16 => ?_) (fun c_16 => ?_)
      · replace hs := ifF c_16 hs
        exact wX12_layLeast_158 C  hh hxx hs G (lv_sub hl [0, 1, 2, 3, 4, 5] rfl)
      · replace hs := ifT c_16 hs
        refine lv_aload_n hx hb dX12_layLeast_113 rfl (lv_at hl 0 rfl) ?_
        refine lv_iload_n hx hb dX12_layLeast_114 rfl (lv_at hl 2 rfl) ?_
        refine lv_iload hx hb dX12_layLeast_115 (lv_at hl 5 rfl) ?_
        obtain ⟨r_18, σ_18, hc, hs⟩ := biE hs
        refine callVI (ar := 2) (As := [.int x2, .int x5]) (rest := []) C G hl.1 (ctX12_leftBy _  hc) ⟨wd_1225, wd_1227, wd_64, wd_81, wd_1228⟩ (by decide +kernel) rfl ⟨rfl, rfl⟩ ⟨Nat.le_of_ble_eq_true rfl, Nat.le_of_ble_eq_true rfl⟩ (kd_lt kd_132 (by decide)) (ent_12 b cI cZ cO _ kd_132) rfl (Nat.le_of_ble_eq_true rfl) ⟨Nat.le_of_ble_eq_true rfl, Nat.le_of_ble_eq_true rfl⟩ dX12_layLeast_117 rfl (fun H locs G => ?_)
        refine lv_aload_n hx hb dX12_layLeast_120 rfl (lv_at hl 0 rfl) ?_
        refine gf_X12_47 C G kd_132 (n' := 144) rfl dX12_layLeast_121 ?_
        refine lv_sipush (v := 128) hx hb dX12_layLeast_124 (by decide) ?_
        refine lv_iload_n hx hb dX12_layLeast_127 rfl (lv_at hl 2 rfl) ?_
        refine lv_iconst (v := 1) hx hb dX12_layLeast_128 (by decide) ?_
        refine lv_iadd hx hb dX12_layLeast_129 ?_
        refine lv_imul hx hb dX12_layLeast_130 ?_
        refine lv_iload_n hx hb dX12_layLeast_131 rfl (lv_at hl 3 rfl) ?_
        refine lv_iconst (v := 1) hx hb dX12_layLeast_132 (by decide) ?_
        refine lv_iload hx hb dX12_layLeast_133 (lv_at hl 5 rfl) ?_
        refine lv_ishl hx hb dX12_layLeast_135 ?_
        refine lv_ior hx hb dX12_layLeast_136 ?_
        refine lv_iadd hx hb dX12_layLeast_137 ?_
        obtain ⟨g_19, hs⟩ := gdE hs
        refine m_iald C G kd_144 ln_144 g_19 dX12_layLeast_138 ?_
        refine lv_iadd hx hb dX12_layLeast_139 ?_
        refine topI hs (fun x6_20 hs => ?_)
        refine lv_istore (lv' := [(6, .int x6_20), (0, .ref (b + 132)), (1, .int x1), (2, .int x2), (3, .int x3), (4, .int x4), (5, .int x5)]) hx hb dX12_layLeast_140 hl (by decide) rfl (fun ls hl => ?_)
        refine lv_iload hx hb dX12_layLeast_142 (lv_at hl 0 rfl) ?_
        refine lv_iload hx hb dX12_layLeast_144 (lv_at hl 5 rfl) ?_
        refine lv_icmp_ge (tgt := 154) hx hb dX12_layLeast_146 (by decide) (fun c_21 => ?_) (fun c_21 => ?_)
        · replace hs := ifT c_21 hs
          refine lv_iload hx hb dX12_layLeast_154 (lv_at hl 5 rfl) ?_
          exact wX12_layLeast_156 C  hh hxx hs G (lv_sub hl [1, 2, 3, 4, 6] rfl)
        · replace hs := ifF c_21 hs
          refine lv_iload hx hb dX12_layLeast_149 (lv_at hl 0 rfl) ?_
          refine lv_goto (tgt := 156) hx hb dX12_layLeast_151 (by decide) ?_
          exact wX12_layLeast_156 C  hh hxx hs G (lv_sub hl [1, 2, 3, 4, 6] rfl)
def fX12_layLeast_83 : Nat → (Sg → Int32 → Int32 → Int32 → Int32 → Option Sg) → Sg → Int32 → Int32 → Int32 → Int32 → Int32 → Option Sg
  | 0, _, _, _, _, _, _, _ => none
  | fu + 1, kx, σ, x1, x2, x3, x4, x5 => fX12_layLeast_83b (fX12_layLeast_83 fu kx) kx σ x1 x2 x3 x4 x5
theorem fX12_layLeast_83_s (fu : Nat) (kx : Sg → Int32 → Int32 → Int32 → Int32 → Option Sg) (σ : Sg) (x1 : Int32) (x2 : Int32) (x3 : Int32) (x4 : Int32) (x5 : Int32) : fX12_layLeast_83 (fu + 1) kx σ x1 x2 x3 x4 x5 = fX12_layLeast_83b (fX12_layLeast_83 fu kx) kx σ x1 x2 x3 x4 x5 := by rw [fX12_layLeast_83]
theorem wX12_layLeast_83 {p : Program} {l : Launch} {e : Env} {s : State} {m : MethodId} {args : Array Value} {below : List Frame} {meth : Method} {c : Code} {D : va_G} {cI cZ cO : ClassId} {b : Nat} (C : Cx p s m args meth c cX12_layLeast RX12 7 none D cI cZ cO) {Rr : Sg} {kx : Sg → Int32 → Int32 → Int32 → Int32 → Option Sg} (hxx : ∀ (σ : Sg) (x1 : Int32) (x2 : Int32) (x3 : Int32) (x4 : Int32) (H : Heap) (locs : List Loc) (ls : Array Slot), kx σ x1 x2 x3 x4 = some Rr → Gd b D cI cZ cO σ s.heap H locs → lv_has ls 7 [(0, .ref (b + 132)), (1, .int x1), (2, .int x2), (3, .int x3), (4, .int x4)] → W p l e rmX12_layLeast s m args below meth c H locs 0 0 (MQ below (QV b D cI cZ cO Rr) args s 0 0 (fun q => b ≤ q)) (F0 m 164 ls [])) : ∀ (fu : Nat) (σ : Sg) (x1 : Int32) (x2 : Int32) (x3 : Int32) (x4 : Int32) (x5 : Int32) (H : Heap) (locs : List Loc) (ls : Array Slot), fX12_layLeast_83 fu kx σ x1 x2 x3 x4 x5 = some Rr → Gd b D cI cZ cO σ s.heap H locs → lv_has ls 7 [(0, .ref (b + 132)), (1, .int x1), (2, .int x2), (3, .int x3), (4, .int x4), (5, .int x5)] → W p l e rmX12_layLeast s m args below meth c H locs 0 0 (MQ below (QV b D cI cZ cO Rr) args s 0 0 (fun q => b ≤ q)) (F0 m 83 ls []) := by
  intro fu
  induction fu with
  | zero => intro σ x1 x2 x3 x4 x5 H locs ls hs; cases hs
  | succ fu ih =>
    intro σ x1 x2 x3 x4 x5 H locs ls hs G hl
    exact wX12_layLeast_83b C (fun σ x1 x2 x3 x4 x5 H locs ls hs G hl => ih σ x1 x2 x3 x4 x5 H locs ls hs G hl) hxx hs G hl
def fX12_layLeast_164 (kh : Sg → Int32 → Int32 → Int32 → Option Sg) (kx : Sg → Int32 → Int32 → Option Sg) (σ : Sg) (x1 : Int32) (x2 : Int32) (x3 : Int32) (x4 : Int32) : Option Sg :=
  (if inb ((128 * x2) + x3) 1024 then lt (st σ 144 ((128 * x2) + x3).toNatClampNeg x4) (fun σ_23 => lt (x3 + 1) (fun x3_24 => kh σ_23 x1 x2 x3_24)) else none)
set_option maxRecDepth 100000 in
set_option maxHeartbeats 4000000 in
theorem wX12_layLeast_164 {p : Program} {l : Launch} {e : Env} {s : State} {m : MethodId} {args : Array Value} {below : List Frame} {meth : Method} {c : Code} {D : va_G} {cI cZ cO : ClassId} {b : Nat} (C : Cx p s m args meth c cX12_layLeast RX12 7 none D cI cZ cO) {Rr : Sg} {kh : Sg → Int32 → Int32 → Int32 → Option Sg} {kx : Sg → Int32 → Int32 → Option Sg} (hh : ∀ (σ : Sg) (x1 : Int32) (x2 : Int32) (x3 : Int32) (H : Heap) (locs : List Loc) (ls : Array Slot), kh σ x1 x2 x3 = some Rr → Gd b D cI cZ cO σ s.heap H locs → lv_has ls 7 [(0, .ref (b + 132)), (1, .int x1), (2, .int x2), (3, .int x3)] → W p l e rmX12_layLeast s m args below meth c H locs 0 0 (MQ below (QV b D cI cZ cO Rr) args s 0 0 (fun q => b ≤ q)) (F0 m 49 ls [])) (hxx : ∀ (σ : Sg) (x1 : Int32) (x2 : Int32) (H : Heap) (locs : List Loc) (ls : Array Slot), kx σ x1 x2 = some Rr → Gd b D cI cZ cO σ s.heap H locs → lv_has ls 7 [(0, .ref (b + 132)), (1, .int x1), (2, .int x2)] → W p l e rmX12_layLeast s m args below meth c H locs 0 0 (MQ below (QV b D cI cZ cO Rr) args s 0 0 (fun q => b ≤ q)) (F0 m 184 ls [])) {σ : Sg} {x1 : Int32} {x2 : Int32} {x3 : Int32} {x4 : Int32} {H : Heap} {locs : List Loc} {ls : Array Slot} (hs : fX12_layLeast_164 kh kx σ x1 x2 x3 x4 = some Rr) (G : Gd b D cI cZ cO σ s.heap H locs) (hl : lv_has ls 7 [(0, .ref (b + 132)), (1, .int x1), (2, .int x2), (3, .int x3), (4, .int x4)]) : W p l e rmX12_layLeast s m args below meth c H locs 0 0 (MQ below (QV b D cI cZ cO Rr) args s 0 0 (fun q => b ≤ q)) (F0 m 164 ls []) := by
  have hx := C.1
  have hb := C.2.1
  unfold fX12_layLeast_164 at hs
  refine lv_aload_n hx hb dX12_layLeast_164 rfl (lv_at hl 0 rfl) ?_
  refine gf_X12_47 C G kd_132 (n' := 144) rfl dX12_layLeast_165 ?_
  refine lv_sipush (v := 128) hx hb dX12_layLeast_168 (by decide) ?_
  refine lv_iload_n hx hb dX12_layLeast_171 rfl (lv_at hl 2 rfl) ?_
  refine lv_imul hx hb dX12_layLeast_172 ?_
  refine lv_iload_n hx hb dX12_layLeast_173 rfl (lv_at hl 3 rfl) ?_
  refine lv_iadd hx hb dX12_layLeast_174 ?_
  refine lv_iload hx hb dX12_layLeast_175 (lv_at hl 4 rfl) ?_
  obtain ⟨g_23, hs⟩ := gdE hs
  refine m_iast C G kd_144 ln_144 g_23 hs dX12_layLeast_177 (fun σ_23 H locs hs G => ?_)
  obtain ⟨x3_24, e_24, hs⟩ := ltE hs
  refine lv_iinc (v := x3_24) (lv' := [(3, .int x3_24), (0, .ref (b + 132)), (1, .int x1), (2, .int x2), (4, .int x4)]) hx hb dX12_layLeast_178 hl (k := 3) rfl (by rw [e_24]; rfl) (by decide) rfl (fun ls hl => ?_)
  refine lv_goto (tgt := 49) hx hb dX12_layLeast_181 (by decide) ?_
  exact hh _ _ _ _ _ _ _ hs G (lv_sub hl [1, 2, 3, 0] rfl)
def fX12_layLeast_49b (kh : Sg → Int32 → Int32 → Int32 → Option Sg) (kx : Sg → Int32 → Int32 → Option Sg) (σ : Sg) (x1 : Int32) (x2 : Int32) (x3 : Int32) : Option Sg :=
  (if x1 ≤ x3 then kx σ x1 x2 else (if inb (12 + x2) 60 then (if inb ((128 * (x2 + 1)) + x3) 1024 then lt ((σ 136 (12 + x2).toNatClampNeg) + (σ 144 ((128 * (x2 + 1)) + x3).toNatClampNeg)) (fun x4_11 => fX12_layLeast_83 FU (fun σ_22 x1_22 x2_22 x3_22 x4_22 => fX12_layLeast_164 kh kx σ_22 x1_22 x2_22 x3_22 x4_22) σ x1 x2 x3 x4_11 0) else none) else none))
set_option maxRecDepth 100000 in
set_option maxHeartbeats 4000000 in
theorem wX12_layLeast_49b {p : Program} {l : Launch} {e : Env} {s : State} {m : MethodId} {args : Array Value} {below : List Frame} {meth : Method} {c : Code} {D : va_G} {cI cZ cO : ClassId} {b : Nat} (C : Cx p s m args meth c cX12_layLeast RX12 7 none D cI cZ cO) {Rr : Sg} {kh : Sg → Int32 → Int32 → Int32 → Option Sg} {kx : Sg → Int32 → Int32 → Option Sg} (hh : ∀ (σ : Sg) (x1 : Int32) (x2 : Int32) (x3 : Int32) (H : Heap) (locs : List Loc) (ls : Array Slot), kh σ x1 x2 x3 = some Rr → Gd b D cI cZ cO σ s.heap H locs → lv_has ls 7 [(0, .ref (b + 132)), (1, .int x1), (2, .int x2), (3, .int x3)] → W p l e rmX12_layLeast s m args below meth c H locs 0 0 (MQ below (QV b D cI cZ cO Rr) args s 0 0 (fun q => b ≤ q)) (F0 m 49 ls [])) (hxx : ∀ (σ : Sg) (x1 : Int32) (x2 : Int32) (H : Heap) (locs : List Loc) (ls : Array Slot), kx σ x1 x2 = some Rr → Gd b D cI cZ cO σ s.heap H locs → lv_has ls 7 [(0, .ref (b + 132)), (1, .int x1), (2, .int x2)] → W p l e rmX12_layLeast s m args below meth c H locs 0 0 (MQ below (QV b D cI cZ cO Rr) args s 0 0 (fun q => b ≤ q)) (F0 m 184 ls [])) {σ : Sg} {x1 : Int32} {x2 : Int32} {x3 : Int32} {H : Heap} {locs : List Loc} {ls : Array Slot} (hs : fX12_layLeast_49b kh kx σ x1 x2 x3 = some Rr) (G : Gd b D cI cZ cO σ s.heap H locs) (hl : lv_has ls 7 [(0, .ref (b + 132)), (1, .int x1), (2, .int x2), (3, .int x3)]) : W p l e rmX12_layLeast s m args below meth c H locs 0 0 (MQ below (QV b D cI cZ cO Rr) args s 0 0 (fun q => b ≤ q)) (F0 m 49 ls []) := by
  have hx := C.1
  have hb := C.2.1
  unfold fX12_layLeast_49b at hs
  refine lv_iload_n hx hb dX12_layLeast_49 rfl (lv_at hl 3 rfl) ?_
  refine lv_iload_n hx hb dX12_layLeast_50 rfl (lv_at hl 1 rfl) ?_
  refine lv_icmp_ge (tgt := 184) hx hb dX12_layLeast_51 (by decide) (fun c_8 => ?_) (fun c_8 => ?_)
  · replace hs := ifT c_8 hs
    exact hxx _ _ _ _ _ _ hs G (lv_sub hl [0, 1, 2] rfl)
  · replace hs := ifF c_8 hs
    refine lv_aload_n hx hb dX12_layLeast_54 rfl (lv_at hl 0 rfl) ?_
    refine gf_X12_19 C G kd_132 (n' := 136) rfl dX12_layLeast_55 ?_
    refine lv_bipush (v := 12) hx hb dX12_layLeast_58 (by decide) ?_
    refine lv_iload_n hx hb dX12_layLeast_60 rfl (lv_at hl 2 rfl) ?_
    refine lv_iadd hx hb dX12_layLeast_61 ?_
    obtain ⟨g_9, hs⟩ := gdE hs
    refine m_iald C G kd_136 ln_136 g_9 dX12_layLeast_62 ?_
    refine lv_aload_n hx hb dX12_layLeast_63 rfl (lv_at hl 0 rfl) ?_
    refine gf_X12_47 C G kd_132 (n' := 144) rfl dX12_layLeast_64 ?_
    refine lv_sipush (v := 128) hx hb dX12_layLeast_67 (by decide) ?_
    refine lv_iload_n hx hb dX12_layLeast_70 rfl (lv_at hl 2 rfl) ?_
    refine lv_iconst (v := 1) hx hb dX12_layLeast_71 (by decide) ?_
    refine lv_iadd hx hb dX12_layLeast_72 ?_
    refine lv_imul hx hb dX12_layLeast_73 ?_
    refine lv_iload_n hx hb dX12_layLeast_74 rfl (lv_at hl 3 rfl) ?_
    refine lv_iadd hx hb dX12_layLeast_75 ?_
    obtain ⟨g_10, hs⟩ := gdE hs
    refine m_iald C G kd_144 ln_144 g_10 dX12_layLeast_76 ?_
    refine lv_iadd hx hb dX12_layLeast_77 ?_
    refine topI hs (fun x4_11 hs => ?_)
    refine lv_istore (lv' := [(4, .int x4_11), (0, .ref (b + 132)), (1, .int x1), (2, .int x2), (3, .int x3)]) hx hb dX12_layLeast_78 hl (by decide) rfl (fun ls hl => ?_)
    refine lv_iconst (v := 0) hx hb dX12_layLeast_80 (by decide) ?_
    refine lv_istore (lv' := [(5, .int 0), (4, .int x4_11), (0, .ref (b + 132)), (1, .int x1), (2, .int x2), (3, .int x3)]) hx hb dX12_layLeast_81 hl (by decide) rfl (fun ls hl => ?_)
    refine wX12_layLeast_83 C (fun σ_22 x1_22 x2_22 x3_22 x4_22 H locs ls hs G hl => ?_) FU _ _ _ _ _ _ _ _ _ hs G (lv_sub hl [2, 3, 4, 5, 1, 0] rfl)
    exact wX12_layLeast_164 C  hh hxx hs G (lv_sub hl [0, 1, 2, 3, 4] rfl)
def fX12_layLeast_49 : Nat → (Sg → Int32 → Int32 → Option Sg) → Sg → Int32 → Int32 → Int32 → Option Sg
  | 0, _, _, _, _, _ => none
  | fu + 1, kx, σ, x1, x2, x3 => fX12_layLeast_49b (fX12_layLeast_49 fu kx) kx σ x1 x2 x3
theorem fX12_layLeast_49_s (fu : Nat) (kx : Sg → Int32 → Int32 → Option Sg) (σ : Sg) (x1 : Int32) (x2 : Int32) (x3 : Int32) : fX12_layLeast_49 (fu + 1) kx σ x1 x2 x3 = fX12_layLeast_49b (fX12_layLeast_49 fu kx) kx σ x1 x2 x3 := by rw [fX12_layLeast_49]
theorem wX12_layLeast_49 {p : Program} {l : Launch} {e : Env} {s : State} {m : MethodId} {args : Array Value} {below : List Frame} {meth : Method} {c : Code} {D : va_G} {cI cZ cO : ClassId} {b : Nat} (C : Cx p s m args meth c cX12_layLeast RX12 7 none D cI cZ cO) {Rr : Sg} {kx : Sg → Int32 → Int32 → Option Sg} (hxx : ∀ (σ : Sg) (x1 : Int32) (x2 : Int32) (H : Heap) (locs : List Loc) (ls : Array Slot), kx σ x1 x2 = some Rr → Gd b D cI cZ cO σ s.heap H locs → lv_has ls 7 [(0, .ref (b + 132)), (1, .int x1), (2, .int x2)] → W p l e rmX12_layLeast s m args below meth c H locs 0 0 (MQ below (QV b D cI cZ cO Rr) args s 0 0 (fun q => b ≤ q)) (F0 m 184 ls [])) : ∀ (fu : Nat) (σ : Sg) (x1 : Int32) (x2 : Int32) (x3 : Int32) (H : Heap) (locs : List Loc) (ls : Array Slot), fX12_layLeast_49 fu kx σ x1 x2 x3 = some Rr → Gd b D cI cZ cO σ s.heap H locs → lv_has ls 7 [(0, .ref (b + 132)), (1, .int x1), (2, .int x2), (3, .int x3)] → W p l e rmX12_layLeast s m args below meth c H locs 0 0 (MQ below (QV b D cI cZ cO Rr) args s 0 0 (fun q => b ≤ q)) (F0 m 49 ls []) := by
  intro fu
  induction fu with
  | zero => intro σ x1 x2 x3 H locs ls hs; cases hs
  | succ fu ih =>
    intro σ x1 x2 x3 H locs ls hs G hl
    exact wX12_layLeast_49b C (fun σ x1 x2 x3 H locs ls hs G hl => ih σ x1 x2 x3 H locs ls hs G hl) hxx hs G hl
def fX12_layLeast_43b (kh : Sg → Int32 → Int32 → Option Sg) (kx : Sg → Option Sg) (σ : Sg) (x1 : Int32) (x2 : Int32) : Option Sg :=
  (if x2 < 0 then kx σ else fX12_layLeast_49 FU (fun σ_25 x1_25 x2_25 => lt (x2_25 + (-1)) (fun x2_26 => kh σ_25 x1_25 x2_26)) σ x1 x2 0)
set_option maxRecDepth 100000 in
set_option maxHeartbeats 4000000 in
theorem wX12_layLeast_43b {p : Program} {l : Launch} {e : Env} {s : State} {m : MethodId} {args : Array Value} {below : List Frame} {meth : Method} {c : Code} {D : va_G} {cI cZ cO : ClassId} {b : Nat} (C : Cx p s m args meth c cX12_layLeast RX12 7 none D cI cZ cO) {Rr : Sg} {kh : Sg → Int32 → Int32 → Option Sg} {kx : Sg → Option Sg} (hh : ∀ (σ : Sg) (x1 : Int32) (x2 : Int32) (H : Heap) (locs : List Loc) (ls : Array Slot), kh σ x1 x2 = some Rr → Gd b D cI cZ cO σ s.heap H locs → lv_has ls 7 [(0, .ref (b + 132)), (1, .int x1), (2, .int x2)] → W p l e rmX12_layLeast s m args below meth c H locs 0 0 (MQ below (QV b D cI cZ cO Rr) args s 0 0 (fun q => b ≤ q)) (F0 m 43 ls [])) (hxx : ∀ (σ : Sg) (H : Heap) (locs : List Loc) (ls : Array Slot), kx σ = some Rr → Gd b D cI cZ cO σ s.heap H locs → lv_has ls 7 [] → W p l e rmX12_layLeast s m args below meth c H locs 0 0 (MQ below (QV b D cI cZ cO Rr) args s 0 0 (fun q => b ≤ q)) (F0 m 190 ls [])) {σ : Sg} {x1 : Int32} {x2 : Int32} {H : Heap} {locs : List Loc} {ls : Array Slot} (hs : fX12_layLeast_43b kh kx σ x1 x2 = some Rr) (G : Gd b D cI cZ cO σ s.heap H locs) (hl : lv_has ls 7 [(0, .ref (b + 132)), (1, .int x1), (2, .int x2)]) : W p l e rmX12_layLeast s m args below meth c H locs 0 0 (MQ below (QV b D cI cZ cO Rr) args s 0 0 (fun q => b ≤ q)) (F0 m 43 ls []) := by
  have hx := C.1
  have hb := C.2.1
  unfold fX12_layLeast_43b at hs
  refine lv_iload_n hx hb dX12_layLeast_43 rfl (lv_at hl 2 rfl) ?_
  refine lv_if_lt (tgt := 190) hx hb dX12_layLeast_44 (by decide) (fun c_7 => ?_) (fun c_7 => ?_)
  · replace hs := ifT c_7 hs
    exact hxx _ _ _ _ hs G (lv_sub hl [] rfl)
  · replace hs := ifF c_7 hs
    refine lv_iconst (v := 0) hx hb dX12_layLeast_47 (by decide) ?_
    refine lv_istore_n (lv' := [(3, .int 0), (0, .ref (b + 132)), (1, .int x1), (2, .int x2)]) hx hb dX12_layLeast_48 rfl hl (by decide) rfl (fun ls hl => ?_)
    refine wX12_layLeast_49 C (fun σ_25 x1_25 x2_25 H locs ls hs G hl => ?_) FU _ _ _ _ _ _ _ hs G (lv_sub hl [1, 2, 3, 0] rfl)
    obtain ⟨x2_26, e_26, hs⟩ := ltE hs
    refine lv_iinc (v := x2_26) (lv' := [(2, .int x2_26), (0, .ref (b + 132)), (1, .int x1_25)]) hx hb dX12_layLeast_184 hl (k := 2) rfl (by rw [e_26]; rfl) (by decide) rfl (fun ls hl => ?_)
    refine lv_goto (tgt := 43) hx hb dX12_layLeast_187 (by decide) ?_
    exact hh _ _ _ _ _ _ hs G (lv_sub hl [1, 2, 0] rfl)
def fX12_layLeast_43 : Nat → (Sg → Option Sg) → Sg → Int32 → Int32 → Option Sg
  | 0, _, _, _, _ => none
  | fu + 1, kx, σ, x1, x2 => fX12_layLeast_43b (fX12_layLeast_43 fu kx) kx σ x1 x2
theorem fX12_layLeast_43_s (fu : Nat) (kx : Sg → Option Sg) (σ : Sg) (x1 : Int32) (x2 : Int32) : fX12_layLeast_43 (fu + 1) kx σ x1 x2 = fX12_layLeast_43b (fX12_layLeast_43 fu kx) kx σ x1 x2 := by rw [fX12_layLeast_43]
theorem wX12_layLeast_43 {p : Program} {l : Launch} {e : Env} {s : State} {m : MethodId} {args : Array Value} {below : List Frame} {meth : Method} {c : Code} {D : va_G} {cI cZ cO : ClassId} {b : Nat} (C : Cx p s m args meth c cX12_layLeast RX12 7 none D cI cZ cO) {Rr : Sg} {kx : Sg → Option Sg} (hxx : ∀ (σ : Sg) (H : Heap) (locs : List Loc) (ls : Array Slot), kx σ = some Rr → Gd b D cI cZ cO σ s.heap H locs → lv_has ls 7 [] → W p l e rmX12_layLeast s m args below meth c H locs 0 0 (MQ below (QV b D cI cZ cO Rr) args s 0 0 (fun q => b ≤ q)) (F0 m 190 ls [])) : ∀ (fu : Nat) (σ : Sg) (x1 : Int32) (x2 : Int32) (H : Heap) (locs : List Loc) (ls : Array Slot), fX12_layLeast_43 fu kx σ x1 x2 = some Rr → Gd b D cI cZ cO σ s.heap H locs → lv_has ls 7 [(0, .ref (b + 132)), (1, .int x1), (2, .int x2)] → W p l e rmX12_layLeast s m args below meth c H locs 0 0 (MQ below (QV b D cI cZ cO Rr) args s 0 0 (fun q => b ≤ q)) (F0 m 43 ls []) := by
  intro fu
  induction fu with
  | zero => intro σ x1 x2 H locs ls hs; cases hs
  | succ fu ih =>
    intro σ x1 x2 H locs ls hs G hl
    exact wX12_layLeast_43b C (fun σ x1 x2 H locs ls hs G hl => ih σ x1 x2 H locs ls hs G hl) hxx hs G hl
def fX12_layLeast (σ : Sg) : Option Sg :=
  lt ((1 : Int32) <<< ((σ 132 3) &&& 31)) (fun x1_1 => fX12_layLeast_9 FU (fun σ_5 x1_5 => lt ((σ_5 132 3) - 1) (fun x2_6 => fX12_layLeast_43 FU (fun σ_27 => some σ_27) σ_5 x1_5 x2_6)) σ x1_1 0)
set_option maxRecDepth 100000 in
set_option maxHeartbeats 4000000 in
theorem ctX12_layLeast (l : Launch) {D : va_G} {cI cZ cO : ClassId} {b : Nat} {σ : Sg} {Rr : Sg} (hs : fX12_layLeast σ = some Rr) : MV l yX12_layLeast cX12_layLeast 7 rmX12_layLeast [.ref (b + 132)] b D cI cZ cO σ Rr := by
  unfold fX12_layLeast at hs
  refine metV (by decide +kernel) (Nat.le_of_ble_eq_true rfl) (fun p e s m below meth c ls C G hl => ?_)
  have C : Cx p s m _ meth c cX12_layLeast RX12 7 none D cI cZ cO := C
  have hx := C.1
  have hb := C.2.1
  have hl : lv_has ls 7 [(0, .ref (b + 132))] := hl
  refine lv_iconst (v := 1) hx hb dX12_layLeast_0 (by decide) ?_
  refine lv_aload_n hx hb dX12_layLeast_1 rfl (lv_at hl 0 rfl) ?_
  refine gf_X12_72 C G kd_132 dX12_layLeast_2 ?_
  refine lv_ishl hx hb dX12_layLeast_5 ?_
  refine topI hs (fun x1_1 hs => ?_)
  refine lv_istore_n (lv' := [(1, .int x1_1), (0, .ref (b + 132))]) hx hb dX12_layLeast_6 rfl hl (by decide) rfl (fun ls hl => ?_)
  refine lv_iconst (v := 0) hx hb dX12_layLeast_7 (by decide) ?_
  refine lv_istore_n (lv' := [(2, .int 0), (1, .int x1_1), (0, .ref (b + 132))]) hx hb dX12_layLeast_8 rfl hl (by decide) rfl (fun ls hl => ?_)
  refine wX12_layLeast_9 C (fun σ_5 x1_5 H locs ls hs G hl => ?_) FU _ _ _ _ _ _ hs G (lv_sub hl [2, 1, 0] rfl)
  refine lv_aload_n hx hb dX12_layLeast_36 rfl (lv_at hl 0 rfl) ?_
  refine gf_X12_72 C G kd_132 dX12_layLeast_37 ?_
  refine lv_iconst (v := 1) hx hb dX12_layLeast_40 (by decide) ?_
  refine lv_isub hx hb dX12_layLeast_41 ?_
  refine topI hs (fun x2_6 hs => ?_)
  refine lv_istore_n (lv' := [(2, .int x2_6), (0, .ref (b + 132)), (1, .int x1_5)]) hx hb dX12_layLeast_42 rfl hl (by decide) rfl (fun ls hl => ?_)
  refine wX12_layLeast_43 C (fun σ_27 H locs ls hs G hl => ?_) FU _ _ _ _ _ _ hs G (lv_sub hl [1, 2, 0] rfl)
  exact retV C G hs dX12_layLeast_190
-- X12_goerFor
def rmX12_goerFor : Room := { frames := 3, cells := 0, slots := 0, locals := 70 }
def fX12_goerFor_107 (kh : Sg → Int32 → Int32 → Int32 → Int32 → Int32 → Int32 → Option (Int32 × Sg)) (kx : Sg → Int32 → Int32 → Int32 → Int32 → Option (Int32 × Sg)) (σ : Sg) (x1 : Int32) (x2 : Int32) (x3 : Int32) (x4 : Int32) (x5 : Int32) (x6 : Int32) : Option (Int32 × Sg) :=
  lt (x6 + (-1)) (fun x6_14 => kh σ x1 x2 x3 x4 x5 x6_14)
set_option maxRecDepth 100000 in
set_option maxHeartbeats 4000000 in
theorem wX12_goerFor_107 {p : Program} {l : Launch} {e : Env} {s : State} {m : MethodId} {args : Array Value} {below : List Frame} {meth : Method} {c : Code} {D : va_G} {cI cZ cO : ClassId} {b : Nat} (C : Cx p s m args meth c cX12_goerFor RX12 7 (some .int) D cI cZ cO) {Rr : (Int32 × Sg)} {kh : Sg → Int32 → Int32 → Int32 → Int32 → Int32 → Int32 → Option (Int32 × Sg)} {kx : Sg → Int32 → Int32 → Int32 → Int32 → Option (Int32 × Sg)} (hh : ∀ (σ : Sg) (x1 : Int32) (x2 : Int32) (x3 : Int32) (x4 : Int32) (x5 : Int32) (x6 : Int32) (H : Heap) (locs : List Loc) (ls : Array Slot), kh σ x1 x2 x3 x4 x5 x6 = some Rr → Gd b D cI cZ cO σ s.heap H locs → lv_has ls 7 [(0, .ref (b + 132)), (1, .int x1), (2, .int x2), (3, .int x3), (4, .int x4), (5, .int x5), (6, .int x6)] → W p l e rmX12_goerFor s m args below meth c H locs 0 0 (MQ below (QI b D cI cZ cO Rr) args s 0 0 (fun q => b ≤ q)) (F0 m 43 ls [])) (hxx : ∀ (σ : Sg) (x1 : Int32) (x2 : Int32) (x3 : Int32) (x4 : Int32) (H : Heap) (locs : List Loc) (ls : Array Slot), kx σ x1 x2 x3 x4 = some Rr → Gd b D cI cZ cO σ s.heap H locs → lv_has ls 7 [(0, .ref (b + 132)), (1, .int x1), (2, .int x2), (3, .int x3), (4, .int x4)] → W p l e rmX12_goerFor s m args below meth c H locs 0 0 (MQ below (QI b D cI cZ cO Rr) args s 0 0 (fun q => b ≤ q)) (F0 m 113 ls [])) {σ : Sg} {x1 : Int32} {x2 : Int32} {x3 : Int32} {x4 : Int32} {x5 : Int32} {x6 : Int32} {H : Heap} {locs : List Loc} {ls : Array Slot} (hs : fX12_goerFor_107 kh kx σ x1 x2 x3 x4 x5 x6 = some Rr) (G : Gd b D cI cZ cO σ s.heap H locs) (hl : lv_has ls 7 [(0, .ref (b + 132)), (1, .int x1), (2, .int x2), (3, .int x3), (4, .int x4), (5, .int x5), (6, .int x6)]) : W p l e rmX12_goerFor s m args below meth c H locs 0 0 (MQ below (QI b D cI cZ cO Rr) args s 0 0 (fun q => b ≤ q)) (F0 m 107 ls []) := by
  have hx := C.1
  have hb := C.2.1
  unfold fX12_goerFor_107 at hs
  obtain ⟨x6_14, e_14, hs⟩ := ltE hs
  refine lv_iinc (v := x6_14) (lv' := [(6, .int x6_14), (0, .ref (b + 132)), (1, .int x1), (2, .int x2), (3, .int x3), (4, .int x4), (5, .int x5)]) hx hb dX12_goerFor_107 hl (k := 6) rfl (by rw [e_14]; rfl) (by decide) rfl (fun ls hl => ?_)
  refine lv_goto (tgt := 43) hx hb dX12_goerFor_110 (by decide) ?_
  exact hh _ _ _ _ _ _ _ _ _ _ hs G (lv_sub hl [1, 2, 3, 4, 5, 6, 0] rfl)
def fX12_goerFor_43b (kh : Sg → Int32 → Int32 → Int32 → Int32 → Int32 → Int32 → Option (Int32 × Sg)) (kx : Sg → Int32 → Int32 → Int32 → Int32 → Option (Int32 × Sg)) (σ : Sg) (x1 : Int32) (x2 : Int32) (x3 : Int32) (x4 : Int32) (x5 : Int32) (x6 : Int32) : Option (Int32 × Sg) :=
  (if x6 < 0 then kx σ x1 x2 x3 x4 else (if inb (12 + x4) 60 then (if (σ 136 (12 + x4).toNatClampNeg) ≤ 0 then kx σ x1 x2 x3 x4 else bi (fX12_has σ x2 x6) (fun r_12 σ_12 => (if r_12 = 0 then bi (fX12_leftBy σ_12 x4 x6) (fun r_15 σ_15 => (if inb ((128 * (x4 + 1)) + (x2 ||| ((1 : Int32) <<< (x6 &&& 31)))) 1024 then (if (r_15 + (σ_15 144 ((128 * (x4 + 1)) + (x2 ||| ((1 : Int32) <<< (x6 &&& 31)))).toNatClampNeg)) = x5 then fX12_goerFor_107 kh kx σ_15 x1 x2 x6 x4 x5 x6 else fX12_goerFor_107 kh kx σ_15 x1 x2 x3 x4 x5 x6) else none)) else fX12_goerFor_107 kh kx σ_12 x1 x2 x3 x4 x5 x6))) else none))
set_option maxRecDepth 100000 in
set_option maxHeartbeats 4000000 in
theorem wX12_goerFor_43b {p : Program} {l : Launch} {e : Env} {s : State} {m : MethodId} {args : Array Value} {below : List Frame} {meth : Method} {c : Code} {D : va_G} {cI cZ cO : ClassId} {b : Nat} (C : Cx p s m args meth c cX12_goerFor RX12 7 (some .int) D cI cZ cO) {Rr : (Int32 × Sg)} {kh : Sg → Int32 → Int32 → Int32 → Int32 → Int32 → Int32 → Option (Int32 × Sg)} {kx : Sg → Int32 → Int32 → Int32 → Int32 → Option (Int32 × Sg)} (hh : ∀ (σ : Sg) (x1 : Int32) (x2 : Int32) (x3 : Int32) (x4 : Int32) (x5 : Int32) (x6 : Int32) (H : Heap) (locs : List Loc) (ls : Array Slot), kh σ x1 x2 x3 x4 x5 x6 = some Rr → Gd b D cI cZ cO σ s.heap H locs → lv_has ls 7 [(0, .ref (b + 132)), (1, .int x1), (2, .int x2), (3, .int x3), (4, .int x4), (5, .int x5), (6, .int x6)] → W p l e rmX12_goerFor s m args below meth c H locs 0 0 (MQ below (QI b D cI cZ cO Rr) args s 0 0 (fun q => b ≤ q)) (F0 m 43 ls [])) (hxx : ∀ (σ : Sg) (x1 : Int32) (x2 : Int32) (x3 : Int32) (x4 : Int32) (H : Heap) (locs : List Loc) (ls : Array Slot), kx σ x1 x2 x3 x4 = some Rr → Gd b D cI cZ cO σ s.heap H locs → lv_has ls 7 [(0, .ref (b + 132)), (1, .int x1), (2, .int x2), (3, .int x3), (4, .int x4)] → W p l e rmX12_goerFor s m args below meth c H locs 0 0 (MQ below (QI b D cI cZ cO Rr) args s 0 0 (fun q => b ≤ q)) (F0 m 113 ls [])) {σ : Sg} {x1 : Int32} {x2 : Int32} {x3 : Int32} {x4 : Int32} {x5 : Int32} {x6 : Int32} {H : Heap} {locs : List Loc} {ls : Array Slot} (hs : fX12_goerFor_43b kh kx σ x1 x2 x3 x4 x5 x6 = some Rr) (G : Gd b D cI cZ cO σ s.heap H locs) (hl : lv_has ls 7 [(0, .ref (b + 132)), (1, .int x1), (2, .int x2), (3, .int x3), (4, .int x4), (5, .int x5), (6, .int x6)]) : W p l e rmX12_goerFor s m args below meth c H locs 0 0 (MQ below (QI b D cI cZ cO Rr) args s 0 0 (fun q => b ≤ q)) (F0 m 43 ls []) := by
  have hx := C.1
  have hb := C.2.1
  unfold fX12_goerFor_43b at hs
  refine lv_iload hx hb dX12_goerFor_43 (lv_at hl 6 rfl) ?_
  refine lv_if_lt (tgt := 113) hx hb dX12_goerFor_45 (by decide) (fun c_9 => ?_) (fun c_9 => ?_)
  · replace hs := ifT c_9 hs
    exact hxx _ _ _ _ _ _ _ _ hs G (lv_sub hl [0, 1, 2, 3, 4] rfl)
  · replace hs := ifF c_9 hs
    refine lv_aload_n hx hb dX12_goerFor_48 rfl (lv_at hl 0 rfl) ?_
    refine gf_X12_19 C G kd_132 (n' := 136) rfl dX12_goerFor_49 ?_
    refine lv_bipush (v := 12) hx hb dX12_goerFor_52 (by decide) ?_
    refine lv_iload hx hb dX12_goerFor_54 (lv_at hl 4 rfl) ?_
    refine lv_iadd hx hb dX12_goerFor_56 ?_
    obtain ⟨g_10, hs⟩ := gdE hs
    refine m_iald C G kd_136 ln_136 g_10 dX12_goerFor_57 ?_
    refine lv_if_le (tgt := 113) hx hb dX12_goerFor_58 (by decide) (fun c_11 => ?_) (fun c_11 => ?_)
    · replace hs := ifT c_11 hs
      exact hxx _ _ _ _ _ _ _ _ hs G (lv_sub hl [0, 1, 2, 3, 4] rfl)
    · replace hs := ifF c_11 hs
      refine lv_iload_n hx hb dX12_goerFor_61 rfl (lv_at hl 2 rfl) ?_
      refine lv_iload hx hb dX12_goerFor_62 (lv_at hl 6 rfl) ?_
      obtain ⟨r_12, σ_12, hc, hs⟩ := biE hs
      refine callSI (ar := 2) (As := [.int x2, .int x6]) (rest := []) C G hl.1 (ctX12_has _  hc) ⟨wd_1069, wd_1070, wd_81, wd_1071⟩ (by decide +kernel) rfl ⟨rfl, rfl⟩ ⟨Nat.le_of_ble_eq_true rfl, Nat.le_of_ble_eq_true rfl⟩ (Nat.le_of_ble_eq_true rfl) ⟨Nat.le_of_ble_eq_true rfl, Nat.le_of_ble_eq_true rfl⟩ dX12_goerFor_64 rfl (fun H locs G => ?_)
      refine lv_if_ne (tgt := 107) hx hb dX12_goerFor_67 (by decide) (fun c_13 => ?_) (fun c_13 => ?_)
      · replace hs := ifF c_13 hs
        exact wX12_goerFor_107 C  hh hxx hs G (lv_sub hl [0, 1, 2, 3, 4, 5, 6] rfl)
      · replace hs := ifT c_13 hs
        refine lv_aload_n hx hb dX12_goerFor_70 rfl (lv_at hl 0 rfl) ?_
        refine lv_iload hx hb dX12_goerFor_71 (lv_at hl 4 rfl) ?_
        refine lv_iload hx hb dX12_goerFor_73 (lv_at hl 6 rfl) ?_
        obtain ⟨r_15, σ_15, hc, hs⟩ := biE hs
        refine callVI (ar := 2) (As := [.int x4, .int x6]) (rest := []) C G hl.1 (ctX12_leftBy _  hc) ⟨wd_1225, wd_1227, wd_64, wd_81, wd_1228⟩ (by decide +kernel) rfl ⟨rfl, rfl⟩ ⟨Nat.le_of_ble_eq_true rfl, Nat.le_of_ble_eq_true rfl⟩ (kd_lt kd_132 (by decide)) (ent_12 b cI cZ cO _ kd_132) rfl (Nat.le_of_ble_eq_true rfl) ⟨Nat.le_of_ble_eq_true rfl, Nat.le_of_ble_eq_true rfl⟩ dX12_goerFor_75 rfl (fun H locs G => ?_)
        refine lv_aload_n hx hb dX12_goerFor_78 rfl (lv_at hl 0 rfl) ?_
        refine gf_X12_47 C G kd_132 (n' := 144) rfl dX12_goerFor_79 ?_
        refine lv_sipush (v := 128) hx hb dX12_goerFor_82 (by decide) ?_
        refine lv_iload hx hb dX12_goerFor_85 (lv_at hl 4 rfl) ?_
        refine lv_iconst (v := 1) hx hb dX12_goerFor_87 (by decide) ?_
        refine lv_iadd hx hb dX12_goerFor_88 ?_
        refine lv_imul hx hb dX12_goerFor_89 ?_
        refine lv_iload_n hx hb dX12_goerFor_90 rfl (lv_at hl 2 rfl) ?_
        refine lv_iconst (v := 1) hx hb dX12_goerFor_91 (by decide) ?_
        refine lv_iload hx hb dX12_goerFor_92 (lv_at hl 6 rfl) ?_
        refine lv_ishl hx hb dX12_goerFor_94 ?_
        refine lv_ior hx hb dX12_goerFor_95 ?_
        refine lv_iadd hx hb dX12_goerFor_96 ?_
        obtain ⟨g_16, hs⟩ := gdE hs
        refine m_iald C G kd_144 ln_144 g_16 dX12_goerFor_97 ?_
        refine lv_iadd hx hb dX12_goerFor_98 ?_
        refine lv_iload hx hb dX12_goerFor_99 (lv_at hl 5 rfl) ?_
        refine lv_icmp_ne (tgt := 107) hx hb dX12_goerFor_101 (by decide) (fun c_17 => ?_) (fun c_17 => ?_)
        · replace hs := ifF c_17 hs
          exact wX12_goerFor_107 C  hh hxx hs G (lv_sub hl [0, 1, 2, 3, 4, 5, 6] rfl)
        · replace hs := ifT c_17 hs
          refine lv_iload hx hb dX12_goerFor_104 (lv_at hl 6 rfl) ?_
          refine lv_istore_n (lv' := [(3, .int x6), (0, .ref (b + 132)), (1, .int x1), (2, .int x2), (4, .int x4), (5, .int x5), (6, .int x6)]) hx hb dX12_goerFor_106 rfl hl (by decide) rfl (fun ls hl => ?_)
          exact wX12_goerFor_107 C  hh hxx hs G (lv_sub hl [1, 2, 3, 0, 4, 5, 6] rfl)
def fX12_goerFor_43 : Nat → (Sg → Int32 → Int32 → Int32 → Int32 → Option (Int32 × Sg)) → Sg → Int32 → Int32 → Int32 → Int32 → Int32 → Int32 → Option (Int32 × Sg)
  | 0, _, _, _, _, _, _, _, _ => none
  | fu + 1, kx, σ, x1, x2, x3, x4, x5, x6 => fX12_goerFor_43b (fX12_goerFor_43 fu kx) kx σ x1 x2 x3 x4 x5 x6
theorem fX12_goerFor_43_s (fu : Nat) (kx : Sg → Int32 → Int32 → Int32 → Int32 → Option (Int32 × Sg)) (σ : Sg) (x1 : Int32) (x2 : Int32) (x3 : Int32) (x4 : Int32) (x5 : Int32) (x6 : Int32) : fX12_goerFor_43 (fu + 1) kx σ x1 x2 x3 x4 x5 x6 = fX12_goerFor_43b (fX12_goerFor_43 fu kx) kx σ x1 x2 x3 x4 x5 x6 := by rw [fX12_goerFor_43]
theorem wX12_goerFor_43 {p : Program} {l : Launch} {e : Env} {s : State} {m : MethodId} {args : Array Value} {below : List Frame} {meth : Method} {c : Code} {D : va_G} {cI cZ cO : ClassId} {b : Nat} (C : Cx p s m args meth c cX12_goerFor RX12 7 (some .int) D cI cZ cO) {Rr : (Int32 × Sg)} {kx : Sg → Int32 → Int32 → Int32 → Int32 → Option (Int32 × Sg)} (hxx : ∀ (σ : Sg) (x1 : Int32) (x2 : Int32) (x3 : Int32) (x4 : Int32) (H : Heap) (locs : List Loc) (ls : Array Slot), kx σ x1 x2 x3 x4 = some Rr → Gd b D cI cZ cO σ s.heap H locs → lv_has ls 7 [(0, .ref (b + 132)), (1, .int x1), (2, .int x2), (3, .int x3), (4, .int x4)] → W p l e rmX12_goerFor s m args below meth c H locs 0 0 (MQ below (QI b D cI cZ cO Rr) args s 0 0 (fun q => b ≤ q)) (F0 m 113 ls [])) : ∀ (fu : Nat) (σ : Sg) (x1 : Int32) (x2 : Int32) (x3 : Int32) (x4 : Int32) (x5 : Int32) (x6 : Int32) (H : Heap) (locs : List Loc) (ls : Array Slot), fX12_goerFor_43 fu kx σ x1 x2 x3 x4 x5 x6 = some Rr → Gd b D cI cZ cO σ s.heap H locs → lv_has ls 7 [(0, .ref (b + 132)), (1, .int x1), (2, .int x2), (3, .int x3), (4, .int x4), (5, .int x5), (6, .int x6)] → W p l e rmX12_goerFor s m args below meth c H locs 0 0 (MQ below (QI b D cI cZ cO Rr) args s 0 0 (fun q => b ≤ q)) (F0 m 43 ls []) := by
  intro fu
  induction fu with
  | zero => intro σ x1 x2 x3 x4 x5 x6 H locs ls hs; cases hs
  | succ fu ih =>
    intro σ x1 x2 x3 x4 x5 x6 H locs ls hs G hl
    exact wX12_goerFor_43b C (fun σ x1 x2 x3 x4 x5 x6 H locs ls hs G hl => ih σ x1 x2 x3 x4 x5 x6 H locs ls hs G hl) hxx hs G hl
def fX12_goerFor_126 (kh : Sg → Int32 → Int32 → Int32 → Int32 → Option (Int32 × Sg)) (kx : Sg → Int32 → Option (Int32 × Sg)) (σ : Sg) (x1 : Int32) (x3 : Int32) (x4 : Int32) (y0 : Int32) (y1 : Int32) : Option (Int32 × Sg) :=
  lt (y1 ||| y0) (fun x2_20 => lt (x4 + 1) (fun x4_21 => kh σ x1 x2_20 x3 x4_21))
set_option maxRecDepth 100000 in
set_option maxHeartbeats 4000000 in
theorem wX12_goerFor_126 {p : Program} {l : Launch} {e : Env} {s : State} {m : MethodId} {args : Array Value} {below : List Frame} {meth : Method} {c : Code} {D : va_G} {cI cZ cO : ClassId} {b : Nat} (C : Cx p s m args meth c cX12_goerFor RX12 7 (some .int) D cI cZ cO) {Rr : (Int32 × Sg)} {kh : Sg → Int32 → Int32 → Int32 → Int32 → Option (Int32 × Sg)} {kx : Sg → Int32 → Option (Int32 × Sg)} (hh : ∀ (σ : Sg) (x1 : Int32) (x2 : Int32) (x3 : Int32) (x4 : Int32) (H : Heap) (locs : List Loc) (ls : Array Slot), kh σ x1 x2 x3 x4 = some Rr → Gd b D cI cZ cO σ s.heap H locs → lv_has ls 7 [(0, .ref (b + 132)), (1, .int x1), (2, .int x2), (3, .int x3), (4, .int x4)] → W p l e rmX12_goerFor s m args below meth c H locs 0 0 (MQ below (QI b D cI cZ cO Rr) args s 0 0 (fun q => b ≤ q)) (F0 m 12 ls [])) (hxx : ∀ (σ : Sg) (x3 : Int32) (H : Heap) (locs : List Loc) (ls : Array Slot), kx σ x3 = some Rr → Gd b D cI cZ cO σ s.heap H locs → lv_has ls 7 [(3, .int x3)] → W p l e rmX12_goerFor s m args below meth c H locs 0 0 (MQ below (QI b D cI cZ cO Rr) args s 0 0 (fun q => b ≤ q)) (F0 m 134 ls [])) {σ : Sg} {x1 : Int32} {x3 : Int32} {x4 : Int32} {y0 : Int32} {y1 : Int32} {H : Heap} {locs : List Loc} {ls : Array Slot} (hs : fX12_goerFor_126 kh kx σ x1 x3 x4 y0 y1 = some Rr) (G : Gd b D cI cZ cO σ s.heap H locs) (hl : lv_has ls 7 [(0, .ref (b + 132)), (1, .int x1), (3, .int x3), (4, .int x4)]) : W p l e rmX12_goerFor s m args below meth c H locs 0 0 (MQ below (QI b D cI cZ cO Rr) args s 0 0 (fun q => b ≤ q)) (F0 m 126 ls [.int y0, .int y1]) := by
  have hx := C.1
  have hb := C.2.1
  unfold fX12_goerFor_126 at hs
  refine lv_ior hx hb dX12_goerFor_126 ?_
  refine topI hs (fun x2_20 hs => ?_)
  refine lv_istore_n (lv' := [(2, .int x2_20), (0, .ref (b + 132)), (1, .int x1), (3, .int x3), (4, .int x4)]) hx hb dX12_goerFor_127 rfl hl (by decide) rfl (fun ls hl => ?_)
  obtain ⟨x4_21, e_21, hs⟩ := ltE hs
  refine lv_iinc (v := x4_21) (lv' := [(4, .int x4_21), (2, .int x2_20), (0, .ref (b + 132)), (1, .int x1), (3, .int x3)]) hx hb dX12_goerFor_128 hl (k := 4) rfl (by rw [e_21]; rfl) (by decide) rfl (fun ls hl => ?_)
  refine lv_goto (tgt := 12) hx hb dX12_goerFor_131 (by decide) ?_
  exact hh _ _ _ _ _ _ _ _ hs G (lv_sub hl [2, 3, 1, 4, 0] rfl)
def fX12_goerFor_113 (kh : Sg → Int32 → Int32 → Int32 → Int32 → Option (Int32 × Sg)) (kx : Sg → Int32 → Option (Int32 × Sg)) (σ : Sg) (x1 : Int32) (x2 : Int32) (x3 : Int32) (x4 : Int32) : Option (Int32 × Sg) :=
  (if x3 = (-1) then fX12_goerFor_126 kh kx σ x1 x3 x4 0 x2 else fX12_goerFor_126 kh kx σ x1 x3 x4 ((1 : Int32) <<< (x3 &&& 31)) x2)
set_option maxRecDepth 100000 in
set_option maxHeartbeats 4000000 in
theorem wX12_goerFor_113 {p : Program} {l : Launch} {e : Env} {s : State} {m : MethodId} {args : Array Value} {below : List Frame} {meth : Method} {c : Code} {D : va_G} {cI cZ cO : ClassId} {b : Nat} (C : Cx p s m args meth c cX12_goerFor RX12 7 (some .int) D cI cZ cO) {Rr : (Int32 × Sg)} {kh : Sg → Int32 → Int32 → Int32 → Int32 → Option (Int32 × Sg)} {kx : Sg → Int32 → Option (Int32 × Sg)} (hh : ∀ (σ : Sg) (x1 : Int32) (x2 : Int32) (x3 : Int32) (x4 : Int32) (H : Heap) (locs : List Loc) (ls : Array Slot), kh σ x1 x2 x3 x4 = some Rr → Gd b D cI cZ cO σ s.heap H locs → lv_has ls 7 [(0, .ref (b + 132)), (1, .int x1), (2, .int x2), (3, .int x3), (4, .int x4)] → W p l e rmX12_goerFor s m args below meth c H locs 0 0 (MQ below (QI b D cI cZ cO Rr) args s 0 0 (fun q => b ≤ q)) (F0 m 12 ls [])) (hxx : ∀ (σ : Sg) (x3 : Int32) (H : Heap) (locs : List Loc) (ls : Array Slot), kx σ x3 = some Rr → Gd b D cI cZ cO σ s.heap H locs → lv_has ls 7 [(3, .int x3)] → W p l e rmX12_goerFor s m args below meth c H locs 0 0 (MQ below (QI b D cI cZ cO Rr) args s 0 0 (fun q => b ≤ q)) (F0 m 134 ls [])) {σ : Sg} {x1 : Int32} {x2 : Int32} {x3 : Int32} {x4 : Int32} {H : Heap} {locs : List Loc} {ls : Array Slot} (hs : fX12_goerFor_113 kh kx σ x1 x2 x3 x4 = some Rr) (G : Gd b D cI cZ cO σ s.heap H locs) (hl : lv_has ls 7 [(0, .ref (b + 132)), (1, .int x1), (2, .int x2), (3, .int x3), (4, .int x4)]) : W p l e rmX12_goerFor s m args below meth c H locs 0 0 (MQ below (QI b D cI cZ cO Rr) args s 0 0 (fun q => b ≤ q)) (F0 m 113 ls []) := by
  have hx := C.1
  have hb := C.2.1
  unfold fX12_goerFor_113 at hs
  refine lv_iload_n hx hb dX12_goerFor_113 rfl (lv_at hl 2 rfl) ?_
  refine lv_iload_n hx hb dX12_goerFor_114 rfl (lv_at hl 3 rfl) ?_
  refine lv_iconst (v := (-1)) hx hb dX12_goerFor_115 (by decide) ?_
  refine lv_icmp_ne (tgt := 123) hx hb dX12_goerFor_116 (by decide) (fun c_19 => ?_) (fun c_19 => ?_)
  · replace hs := ifF c_19 hs
    refine lv_iconst (v := 1) hx hb dX12_goerFor_123 (by decide) ?_
    refine lv_iload_n hx hb dX12_goerFor_124 rfl (lv_at hl 3 rfl) ?_
    refine lv_ishl hx hb dX12_goerFor_125 ?_
    exact wX12_goerFor_126 C  hh hxx hs G (lv_sub hl [0, 1, 3, 4] rfl)
  · replace hs := ifT c_19 hs
    refine lv_iconst (v := 0) hx hb dX12_goerFor_119 (by decide) ?_
    refine lv_goto (tgt := 126) hx hb dX12_goerFor_120 (by decide) ?_
    exact wX12_goerFor_126 C  hh hxx hs G (lv_sub hl [0, 1, 3, 4] rfl)
def fX12_goerFor_12b (kh : Sg → Int32 → Int32 → Int32 → Int32 → Option (Int32 × Sg)) (kx : Sg → Int32 → Option (Int32 × Sg)) (σ : Sg) (x1 : Int32) (x2 : Int32) (x3 : Int32) (x4 : Int32) : Option (Int32 × Sg) :=
  (if x1 < x4 then kx σ x3 else lt (-1) (fun x3_5 => (if inb ((128 * x4) + x2) 1024 then lt (σ 144 ((128 * x4) + x2).toNatClampNeg) (fun x5_7 => lt ((σ 132 3) - 1) (fun x6_8 => fX12_goerFor_43 FU (fun σ_18 x1_18 x2_18 x3_18 x4_18 => fX12_goerFor_113 kh kx σ_18 x1_18 x2_18 x3_18 x4_18) σ x1 x2 x3_5 x4 x5_7 x6_8)) else none)))
set_option maxRecDepth 100000 in
set_option maxHeartbeats 4000000 in
theorem wX12_goerFor_12b {p : Program} {l : Launch} {e : Env} {s : State} {m : MethodId} {args : Array Value} {below : List Frame} {meth : Method} {c : Code} {D : va_G} {cI cZ cO : ClassId} {b : Nat} (C : Cx p s m args meth c cX12_goerFor RX12 7 (some .int) D cI cZ cO) {Rr : (Int32 × Sg)} {kh : Sg → Int32 → Int32 → Int32 → Int32 → Option (Int32 × Sg)} {kx : Sg → Int32 → Option (Int32 × Sg)} (hh : ∀ (σ : Sg) (x1 : Int32) (x2 : Int32) (x3 : Int32) (x4 : Int32) (H : Heap) (locs : List Loc) (ls : Array Slot), kh σ x1 x2 x3 x4 = some Rr → Gd b D cI cZ cO σ s.heap H locs → lv_has ls 7 [(0, .ref (b + 132)), (1, .int x1), (2, .int x2), (3, .int x3), (4, .int x4)] → W p l e rmX12_goerFor s m args below meth c H locs 0 0 (MQ below (QI b D cI cZ cO Rr) args s 0 0 (fun q => b ≤ q)) (F0 m 12 ls [])) (hxx : ∀ (σ : Sg) (x3 : Int32) (H : Heap) (locs : List Loc) (ls : Array Slot), kx σ x3 = some Rr → Gd b D cI cZ cO σ s.heap H locs → lv_has ls 7 [(3, .int x3)] → W p l e rmX12_goerFor s m args below meth c H locs 0 0 (MQ below (QI b D cI cZ cO Rr) args s 0 0 (fun q => b ≤ q)) (F0 m 134 ls [])) {σ : Sg} {x1 : Int32} {x2 : Int32} {x3 : Int32} {x4 : Int32} {H : Heap} {locs : List Loc} {ls : Array Slot} (hs : fX12_goerFor_12b kh kx σ x1 x2 x3 x4 = some Rr) (G : Gd b D cI cZ cO σ s.heap H locs) (hl : lv_has ls 7 [(0, .ref (b + 132)), (1, .int x1), (2, .int x2), (3, .int x3), (4, .int x4)]) : W p l e rmX12_goerFor s m args below meth c H locs 0 0 (MQ below (QI b D cI cZ cO Rr) args s 0 0 (fun q => b ≤ q)) (F0 m 12 ls []) := by
  have hx := C.1
  have hb := C.2.1
  unfold fX12_goerFor_12b at hs
  refine lv_iload hx hb dX12_goerFor_12 (lv_at hl 4 rfl) ?_
  refine lv_iload_n hx hb dX12_goerFor_14 rfl (lv_at hl 1 rfl) ?_
  refine lv_icmp_gt (tgt := 134) hx hb dX12_goerFor_15 (by decide) (fun c_4 => ?_) (fun c_4 => ?_)
  · replace hs := ifT c_4 hs
    exact hxx _ _ _ _ _ hs G (lv_sub hl [3] rfl)
  · replace hs := ifF c_4 hs
    refine lv_iconst (v := (-1)) hx hb dX12_goerFor_18 (by decide) ?_
    refine topI hs (fun x3_5 hs => ?_)
    refine lv_istore_n (lv' := [(3, .int x3_5), (0, .ref (b + 132)), (1, .int x1), (2, .int x2), (4, .int x4)]) hx hb dX12_goerFor_19 rfl hl (by decide) rfl (fun ls hl => ?_)
    refine lv_aload_n hx hb dX12_goerFor_20 rfl (lv_at hl 1 rfl) ?_
    refine gf_X12_47 C G kd_132 (n' := 144) rfl dX12_goerFor_21 ?_
    refine lv_sipush (v := 128) hx hb dX12_goerFor_24 (by decide) ?_
    refine lv_iload hx hb dX12_goerFor_27 (lv_at hl 4 rfl) ?_
    refine lv_imul hx hb dX12_goerFor_29 ?_
    refine lv_iload_n hx hb dX12_goerFor_30 rfl (lv_at hl 3 rfl) ?_
    refine lv_iadd hx hb dX12_goerFor_31 ?_
    obtain ⟨g_6, hs⟩ := gdE hs
    refine m_iald C G kd_144 ln_144 g_6 dX12_goerFor_32 ?_
    refine topI hs (fun x5_7 hs => ?_)
    refine lv_istore (lv' := [(5, .int x5_7), (3, .int x3_5), (0, .ref (b + 132)), (1, .int x1), (2, .int x2), (4, .int x4)]) hx hb dX12_goerFor_33 hl (by decide) rfl (fun ls hl => ?_)
    refine lv_aload_n hx hb dX12_goerFor_35 rfl (lv_at hl 2 rfl) ?_
    refine gf_X12_72 C G kd_132 dX12_goerFor_36 ?_
    refine lv_iconst (v := 1) hx hb dX12_goerFor_39 (by decide) ?_
    refine lv_isub hx hb dX12_goerFor_40 ?_
    refine topI hs (fun x6_8 hs => ?_)
    refine lv_istore (lv' := [(6, .int x6_8), (5, .int x5_7), (3, .int x3_5), (0, .ref (b + 132)), (1, .int x1), (2, .int x2), (4, .int x4)]) hx hb dX12_goerFor_41 hl (by decide) rfl (fun ls hl => ?_)
    refine wX12_goerFor_43 C (fun σ_18 x1_18 x2_18 x3_18 x4_18 H locs ls hs G hl => ?_) FU _ _ _ _ _ _ _ _ _ _ hs G (lv_sub hl [3, 4, 5, 2, 6, 1, 0] rfl)
    exact wX12_goerFor_113 C  hh hxx hs G (lv_sub hl [0, 1, 2, 3, 4] rfl)
def fX12_goerFor_12 : Nat → (Sg → Int32 → Option (Int32 × Sg)) → Sg → Int32 → Int32 → Int32 → Int32 → Option (Int32 × Sg)
  | 0, _, _, _, _, _, _ => none
  | fu + 1, kx, σ, x1, x2, x3, x4 => fX12_goerFor_12b (fX12_goerFor_12 fu kx) kx σ x1 x2 x3 x4
theorem fX12_goerFor_12_s (fu : Nat) (kx : Sg → Int32 → Option (Int32 × Sg)) (σ : Sg) (x1 : Int32) (x2 : Int32) (x3 : Int32) (x4 : Int32) : fX12_goerFor_12 (fu + 1) kx σ x1 x2 x3 x4 = fX12_goerFor_12b (fX12_goerFor_12 fu kx) kx σ x1 x2 x3 x4 := by rw [fX12_goerFor_12]
theorem wX12_goerFor_12 {p : Program} {l : Launch} {e : Env} {s : State} {m : MethodId} {args : Array Value} {below : List Frame} {meth : Method} {c : Code} {D : va_G} {cI cZ cO : ClassId} {b : Nat} (C : Cx p s m args meth c cX12_goerFor RX12 7 (some .int) D cI cZ cO) {Rr : (Int32 × Sg)} {kx : Sg → Int32 → Option (Int32 × Sg)} (hxx : ∀ (σ : Sg) (x3 : Int32) (H : Heap) (locs : List Loc) (ls : Array Slot), kx σ x3 = some Rr → Gd b D cI cZ cO σ s.heap H locs → lv_has ls 7 [(3, .int x3)] → W p l e rmX12_goerFor s m args below meth c H locs 0 0 (MQ below (QI b D cI cZ cO Rr) args s 0 0 (fun q => b ≤ q)) (F0 m 134 ls [])) : ∀ (fu : Nat) (σ : Sg) (x1 : Int32) (x2 : Int32) (x3 : Int32) (x4 : Int32) (H : Heap) (locs : List Loc) (ls : Array Slot), fX12_goerFor_12 fu kx σ x1 x2 x3 x4 = some Rr → Gd b D cI cZ cO σ s.heap H locs → lv_has ls 7 [(0, .ref (b + 132)), (1, .int x1), (2, .int x2), (3, .int x3), (4, .int x4)] → W p l e rmX12_goerFor s m args below meth c H locs 0 0 (MQ below (QI b D cI cZ cO Rr) args s 0 0 (fun q => b ≤ q)) (F0 m 12 ls []) := by
  intro fu
  induction fu with
  | zero => intro σ x1 x2 x3 x4 H locs ls hs; cases hs
  | succ fu ih =>
    intro σ x1 x2 x3 x4 H locs ls hs G hl
    exact wX12_goerFor_12b C (fun σ x1 x2 x3 x4 H locs ls hs G hl => ih σ x1 x2 x3 x4 H locs ls hs G hl) hxx hs G hl
def fX12_goerFor (σ : Sg) (x1 : Int32) : Option (Int32 × Sg) :=
  (if inb 3 60 then lt (σ 136 (3 : Int32).toNatClampNeg) (fun x2_2 => lt (-1) (fun x3_3 => fX12_goerFor_12 FU (fun σ_22 x3_22 => some (x3_22, σ_22)) σ x1 x2_2 x3_3 0)) else none)
set_option maxRecDepth 100000 in
set_option maxHeartbeats 4000000 in
theorem ctX12_goerFor (l : Launch) {D : va_G} {cI cZ cO : ClassId} {b : Nat} {σ : Sg} {x1 : Int32} {Rr : (Int32 × Sg)} (hs : fX12_goerFor σ x1 = some Rr) : MI l yX12_goerFor cX12_goerFor 7 (some .int) rmX12_goerFor [.ref (b + 132), .int x1] b D cI cZ cO σ Rr := by
  unfold fX12_goerFor at hs
  refine metI (by decide +kernel) (Nat.le_of_ble_eq_true rfl) (fun p e s m below meth c ls C G hl => ?_)
  have C : Cx p s m _ meth c cX12_goerFor RX12 7 (some .int) D cI cZ cO := C
  have hx := C.1
  have hb := C.2.1
  have hl : lv_has ls 7 [(0, .ref (b + 132)), (1, .int x1)] := hl
  refine lv_aload_n hx hb dX12_goerFor_0 rfl (lv_at hl 0 rfl) ?_
  refine gf_X12_19 C G kd_132 (n' := 136) rfl dX12_goerFor_1 ?_
  refine lv_iconst (v := 3) hx hb dX12_goerFor_4 (by decide) ?_
  obtain ⟨g_1, hs⟩ := gdE hs
  refine m_iald C G kd_136 ln_136 g_1 dX12_goerFor_5 ?_
  refine topI hs (fun x2_2 hs => ?_)
  refine lv_istore_n (lv' := [(2, .int x2_2), (0, .ref (b + 132)), (1, .int x1)]) hx hb dX12_goerFor_6 rfl hl (by decide) rfl (fun ls hl => ?_)
  refine lv_iconst (v := (-1)) hx hb dX12_goerFor_7 (by decide) ?_
  refine topI hs (fun x3_3 hs => ?_)
  refine lv_istore_n (lv' := [(3, .int x3_3), (2, .int x2_2), (0, .ref (b + 132)), (1, .int x1)]) hx hb dX12_goerFor_8 rfl hl (by decide) rfl (fun ls hl => ?_)
  refine lv_iconst (v := 0) hx hb dX12_goerFor_9 (by decide) ?_
  refine lv_istore (lv' := [(4, .int 0), (3, .int x3_3), (2, .int x2_2), (0, .ref (b + 132)), (1, .int x1)]) hx hb dX12_goerFor_10 hl (by decide) rfl (fun ls hl => ?_)
  refine wX12_goerFor_12 C (fun σ_22 x3_22 H locs ls hs G hl => ?_) FU _ _ _ _ _ _ _ _ hs G (lv_sub hl [3, 4, 2, 1, 0] rfl)
  refine lv_iload_n hx hb dX12_goerFor_134 rfl (lv_at hl 0 rfl) ?_
  exact retI C G hs dX12_goerFor_135
