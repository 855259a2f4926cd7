-- X0_gotOff
def rmX0_gotOff : Room := { frames := 0, cells := 0, slots := 0, locals := 0 }
def fX0_gotOff (σ : Sg) (x0 : Int32) (x1 : Int32) (x2 : Int32) (x3 : Int32) : Option (Int32 × Sg) :=
  (if x0 = 1 then some ((x1 + x3), σ) else (if x0 = 2 then (if (x3 - x3 / 2 * 2) = 0 then some (x1, σ) else some (0, σ)) else (if x0 = 3 then some (((2 * x1) + (x2 / 2)), σ) else some (x1, σ))))
set_option maxRecDepth 100000 in
set_option maxHeartbeats 4000000 in
theorem ctX0_gotOff (l : Launch) {D : va_G} {cI cZ cO : ClassId} {b : Nat} {σ : Sg} {x0 : Int32} {x1 : Int32} {x2 : Int32} {x3 : Int32} {Rr : (Int32 × Sg)} (hs : fX0_gotOff σ x0 x1 x2 x3 = some Rr) : MI l yX0_gotOff cX0_gotOff 4 (some .int) rmX0_gotOff [.int x0, .int x1, .int x2, .int x3] b D cI cZ cO σ Rr := by
  unfold fX0_gotOff at hs
  refine metI (by decide +kernel) (Nat.le_of_ble_eq_true rfl) (fun p e s m below meth c ls C G hl => ?_)
  have C : Cx p s m _ meth c cX0_gotOff RX0 4 (some .int) D cI cZ cO := C
  have hx := C.1
  have hb := C.2.1
  have hl : lv_has ls 4 [(0, .int x0), (1, .int x1), (2, .int x2), (3, .int x3)] := hl
  refine lv_iload_n hx hb dX0_gotOff_0 rfl (lv_at hl 0 rfl) ?_
  by_cases c_1_1 : x0 = 1
  · replace hs := ifT c_1_1 hs
    refine lv_tableIn (tgt := 28) hx hb dX0_gotOff_1 (by rw [c_1_1]; decide) (by rw [c_1_1]; decide) (by rw [c_1_1]; rfl) (by decide) ?_
    refine lv_iload_n hx hb dX0_gotOff_28 rfl (lv_at hl 1 rfl) ?_
    refine lv_iload_n hx hb dX0_gotOff_29 rfl (lv_at hl 3 rfl) ?_
    refine lv_iadd hx hb dX0_gotOff_30 ?_
    exact retI C G hs dX0_gotOff_31
  · replace hs := ifF c_1_1 hs
    by_cases c_1_2 : x0 = 2
    · replace hs := ifT c_1_2 hs
      refine lv_tableIn (tgt := 32) hx hb dX0_gotOff_1 (by rw [c_1_2]; decide) (by rw [c_1_2]; decide) (by rw [c_1_2]; rfl) (by decide) ?_
      refine lv_iload_n hx hb dX0_gotOff_32 rfl (lv_at hl 3 rfl) ?_
      refine lv_iconst (v := 2) hx hb dX0_gotOff_33 (by decide) ?_
      refine lv_irem hx hb dX0_gotOff_34 (by decide) ?_
      refine lv_if_ne (tgt := 42) hx hb dX0_gotOff_35 (by decide) (fun c_2 => ?_) (fun c_2 => ?_)
      · replace hs := ifF c_2 hs
        refine lv_iconst (v := 0) hx hb dX0_gotOff_42 (by decide) ?_
        exact retI C G hs dX0_gotOff_43
      · replace hs := ifT c_2 hs
        refine lv_iload_n hx hb dX0_gotOff_38 rfl (lv_at hl 1 rfl) ?_
        refine lv_goto (tgt := 43) hx hb dX0_gotOff_39 (by decide) ?_
        exact retI C G hs dX0_gotOff_43
    · replace hs := ifF c_1_2 hs
      by_cases c_1_3 : x0 = 3
      · replace hs := ifT c_1_3 hs
        refine lv_tableIn (tgt := 44) hx hb dX0_gotOff_1 (by rw [c_1_3]; decide) (by rw [c_1_3]; decide) (by rw [c_1_3]; rfl) (by decide) ?_
        refine lv_iconst (v := 2) hx hb dX0_gotOff_44 (by decide) ?_
        refine lv_iload_n hx hb dX0_gotOff_45 rfl (lv_at hl 1 rfl) ?_
        refine lv_imul hx hb dX0_gotOff_46 ?_
        refine lv_iload_n hx hb dX0_gotOff_47 rfl (lv_at hl 2 rfl) ?_
        refine lv_iconst (v := 2) hx hb dX0_gotOff_48 (by decide) ?_
        refine lv_idiv hx hb dX0_gotOff_49 (by decide) ?_
        refine lv_iadd hx hb dX0_gotOff_50 ?_
        exact retI C G hs dX0_gotOff_51
      · replace hs := ifF c_1_3 hs
        refine lv_tableOut (tgt := 52) hx hb dX0_gotOff_1 (by have t0 := tbl_ne c_1_1 (z := 1) (by decide); have t1 := tbl_ne c_1_2 (z := 2) (by decide); have t2 := tbl_ne c_1_3 (z := 3) (by decide); omega) (by decide) ?_
        refine lv_iload_n hx hb dX0_gotOff_52 rfl (lv_at hl 1 rfl) ?_
        exact retI C G hs dX0_gotOff_53
-- X0_hold
def rmX0_hold : Room := { frames := 1, cells := 0, slots := 0, locals := 30 }
def fX0_hold_109 (kh : Sg → Int32 → Int32 → Int32 → Int32 → Int32 → Option Sg) (kx : Sg → Option Sg) (σ : Sg) (x2 : Int32) (x3 : Int32) (x4 : Int32) (x5 : Int32) (x6 : Int32) : Option Sg :=
  lt (x6 + 1) (fun x6_10 => kh σ x2 x3 x4 x5 x6_10)
set_option maxRecDepth 100000 in
set_option maxHeartbeats 4000000 in
theorem wX0_hold_109 {p : Program} {l : Launch} {e : Env} {s : State} {m : MethodId} {args : Array Value} {below : List Frame} {meth : Method} {c : Code} {D : va_G} {cI cZ cO : ClassId} {b : Nat} (C : Cx p s m args meth c cX0_hold RX0 8 none D cI cZ cO) {Rr : Sg} {kh : Sg → Int32 → Int32 → Int32 → Int32 → Int32 → Option Sg} {kx : Sg → Option Sg} (hh : ∀ (σ : Sg) (x2 : Int32) (x3 : Int32) (x4 : Int32) (x5 : Int32) (x6 : Int32) (H : Heap) (locs : List Loc) (ls : Array Slot), kh σ x2 x3 x4 x5 x6 = some Rr → Gd b D cI cZ cO σ s.heap H locs → lv_has ls 8 [(0, .ref (b + 16)), (2, .int x2), (3, .int x3), (4, .int x4), (5, .int x5), (6, .int x6)] → W p l e rmX0_hold s m args below meth c H locs 0 0 (MQ below (QV b D cI cZ cO Rr) args s 0 0 (fun q => b ≤ q)) (F0 m 13 ls [])) (hxx : ∀ (σ : Sg) (H : Heap) (locs : List Loc) (ls : Array Slot), kx σ = some Rr → Gd b D cI cZ cO σ s.heap H locs → lv_has ls 8 [] → W p l e rmX0_hold s m args below meth c H locs 0 0 (MQ below (QV b D cI cZ cO Rr) args s 0 0 (fun q => b ≤ q)) (F0 m 115 ls [])) {σ : Sg} {x2 : Int32} {x3 : Int32} {x4 : Int32} {x5 : Int32} {x6 : Int32} {H : Heap} {locs : List Loc} {ls : Array Slot} (hs : fX0_hold_109 kh kx σ x2 x3 x4 x5 x6 = some Rr) (G : Gd b D cI cZ cO σ s.heap H locs) (hl : lv_has ls 8 [(0, .ref (b + 16)), (2, .int x2), (3, .int x3), (4, .int x4), (5, .int x5), (6, .int x6)]) : W p l e rmX0_hold s m args below meth c H locs 0 0 (MQ below (QV b D cI cZ cO Rr) args s 0 0 (fun q => b ≤ q)) (F0 m 109 ls []) := by
  have hx := C.1
  have hb := C.2.1
  unfold fX0_hold_109 at hs
  obtain ⟨x6_10, e_10, hs⟩ := ltE hs
  refine lv_iinc (v := x6_10) (lv' := [(6, .int x6_10), (0, .ref (b + 16)), (2, .int x2), (3, .int x3), (4, .int x4), (5, .int x5)]) hx hb dX0_hold_109 hl (k := 5) rfl (by rw [e_10]; rfl) (by decide) rfl (fun ls hl => ?_)
  refine lv_goto (tgt := 13) hx hb dX0_hold_112 (by decide) ?_
  exact hh _ _ _ _ _ _ _ _ _ hs G (lv_sub hl [1, 2, 3, 4, 5, 0] rfl)
def fX0_hold_78 (kh : Sg → Int32 → Int32 → Int32 → Int32 → Int32 → Option Sg) (kx : Sg → Option Sg) (σ : Sg) (x2 : Int32) (x3 : Int32) (x4 : Int32) (x5 : Int32) (x6 : Int32) (y0 : Int32) : Option Sg :=
  (if y0 = 0 then fX0_hold_109 kh kx σ x2 x3 x4 x5 x6 else (if (x6 - x6 / 3 * 3) = 2 then lt (st σ 16 0 (if ((σ 16 0) + x5) < 99 then ((σ 16 0) + x5) else 99)) (fun σ_12 => fX0_hold_109 kh kx σ_12 x2 x3 x4 x5 x6) else fX0_hold_109 kh kx σ x2 x3 x4 x5 x6))
set_option maxRecDepth 100000 in
set_option maxHeartbeats 4000000 in
theorem wX0_hold_78 {p : Program} {l : Launch} {e : Env} {s : State} {m : MethodId} {args : Array Value} {below : List Frame} {meth : Method} {c : Code} {D : va_G} {cI cZ cO : ClassId} {b : Nat} (C : Cx p s m args meth c cX0_hold RX0 8 none D cI cZ cO) {Rr : Sg} {kh : Sg → Int32 → Int32 → Int32 → Int32 → Int32 → Option Sg} {kx : Sg → Option Sg} (hh : ∀ (σ : Sg) (x2 : Int32) (x3 : Int32) (x4 : Int32) (x5 : Int32) (x6 : Int32) (H : Heap) (locs : List Loc) (ls : Array Slot), kh σ x2 x3 x4 x5 x6 = some Rr → Gd b D cI cZ cO σ s.heap H locs → lv_has ls 8 [(0, .ref (b + 16)), (2, .int x2), (3, .int x3), (4, .int x4), (5, .int x5), (6, .int x6)] → W p l e rmX0_hold s m args below meth c H locs 0 0 (MQ below (QV b D cI cZ cO Rr) args s 0 0 (fun q => b ≤ q)) (F0 m 13 ls [])) (hxx : ∀ (σ : Sg) (H : Heap) (locs : List Loc) (ls : Array Slot), kx σ = some Rr → Gd b D cI cZ cO σ s.heap H locs → lv_has ls 8 [] → W p l e rmX0_hold s m args below meth c H locs 0 0 (MQ below (QV b D cI cZ cO Rr) args s 0 0 (fun q => b ≤ q)) (F0 m 115 ls [])) {σ : Sg} {x2 : Int32} {x3 : Int32} {x4 : Int32} {x5 : Int32} {x6 : Int32} {y0 : Int32} {H : Heap} {locs : List Loc} {ls : Array Slot} (hs : fX0_hold_78 kh kx σ x2 x3 x4 x5 x6 y0 = some Rr) (G : Gd b D cI cZ cO σ s.heap H locs) (hl : lv_has ls 8 [(0, .ref (b + 16)), (2, .int x2), (3, .int x3), (4, .int x4), (5, .int x5), (6, .int x6)]) : W p l e rmX0_hold s m args below meth c H locs 0 0 (MQ below (QV b D cI cZ cO Rr) args s 0 0 (fun q => b ≤ q)) (F0 m 78 ls [.int y0]) := by
  have hx := C.1
  have hb := C.2.1
  unfold fX0_hold_78 at hs
  refine lv_istore (lv' := [(7, .int y0), (0, .ref (b + 16)), (2, .int x2), (3, .int x3), (4, .int x4), (5, .int x5), (6, .int x6)]) hx hb dX0_hold_78 hl (by decide) rfl (fun ls hl => ?_)
  refine lv_iload hx hb dX0_hold_80 (lv_at hl 0 rfl) ?_
  refine lv_if_eq (tgt := 109) hx hb dX0_hold_82 (by decide) (fun c_9 => ?_) (fun c_9 => ?_)
  · replace hs := ifT c_9 hs
    exact wX0_hold_109 C  hh hxx hs G (lv_sub hl [1, 2, 3, 4, 5, 6] rfl)
  · replace hs := ifF c_9 hs
    refine lv_iload hx hb dX0_hold_85 (lv_at hl 6 rfl) ?_
    refine lv_iconst (v := 3) hx hb dX0_hold_87 (by decide) ?_
    refine lv_irem hx hb dX0_hold_88 (by decide) ?_
    refine lv_iconst (v := 2) hx hb dX0_hold_89 (by decide) ?_
    refine lv_icmp_ne (tgt := 109) hx hb dX0_hold_90 (by decide) (fun c_11 => ?_) (fun c_11 => ?_)
    · replace hs := ifF c_11 hs
      exact wX0_hold_109 C  hh hxx hs G (lv_sub hl [1, 2, 3, 4, 5, 6] rfl)
    · replace hs := ifT c_11 hs
      refine lv_aload_n hx hb dX0_hold_93 rfl (lv_at hl 1 rfl) ?_
      refine lv_bipush (v := 99) hx hb dX0_hold_94 (by decide) ?_
      refine lv_aload_n hx hb dX0_hold_96 rfl (lv_at hl 1 rfl) ?_
      refine gf_X0_9 C G kd_16 dX0_hold_97 ?_
      refine lv_iload hx hb dX0_hold_100 (lv_at hl 5 rfl) ?_
      refine lv_iadd hx hb dX0_hold_102 ?_
      refine m_min C hl.1 wd_614 (Nat.le_of_ble_eq_true rfl) (Nat.le_of_ble_eq_true rfl) (Nat.le_of_ble_eq_true rfl) (Nat.le_of_ble_eq_true rfl) dX0_hold_103 ?_
      refine pf_X0_9 C G kd_16 hs dX0_hold_106 (fun σ_12 H locs hs G => ?_)
      exact wX0_hold_109 C  hh hxx hs G (lv_sub hl [1, 2, 3, 4, 5, 6] rfl)
def fX0_hold_77 (kh : Sg → Int32 → Int32 → Int32 → Int32 → Int32 → Option Sg) (kx : Sg → Option Sg) (σ : Sg) (x2 : Int32) (x3 : Int32) (x4 : Int32) (x5 : Int32) (x6 : Int32) : Option Sg :=
  fX0_hold_78 kh kx σ x2 x3 x4 x5 x6 0
set_option maxRecDepth 100000 in
set_option maxHeartbeats 4000000 in
theorem wX0_hold_77 {p : Program} {l : Launch} {e : Env} {s : State} {m : MethodId} {args : Array Value} {below : List Frame} {meth : Method} {c : Code} {D : va_G} {cI cZ cO : ClassId} {b : Nat} (C : Cx p s m args meth c cX0_hold RX0 8 none D cI cZ cO) {Rr : Sg} {kh : Sg → Int32 → Int32 → Int32 → Int32 → Int32 → Option Sg} {kx : Sg → Option Sg} (hh : ∀ (σ : Sg) (x2 : Int32) (x3 : Int32) (x4 : Int32) (x5 : Int32) (x6 : Int32) (H : Heap) (locs : List Loc) (ls : Array Slot), kh σ x2 x3 x4 x5 x6 = some Rr → Gd b D cI cZ cO σ s.heap H locs → lv_has ls 8 [(0, .ref (b + 16)), (2, .int x2), (3, .int x3), (4, .int x4), (5, .int x5), (6, .int x6)] → W p l e rmX0_hold s m args below meth c H locs 0 0 (MQ below (QV b D cI cZ cO Rr) args s 0 0 (fun q => b ≤ q)) (F0 m 13 ls [])) (hxx : ∀ (σ : Sg) (H : Heap) (locs : List Loc) (ls : Array Slot), kx σ = some Rr → Gd b D cI cZ cO σ s.heap H locs → lv_has ls 8 [] → W p l e rmX0_hold s m args below meth c H locs 0 0 (MQ below (QV b D cI cZ cO Rr) args s 0 0 (fun q => b ≤ q)) (F0 m 115 ls [])) {σ : Sg} {x2 : Int32} {x3 : Int32} {x4 : Int32} {x5 : Int32} {x6 : Int32} {H : Heap} {locs : List Loc} {ls : Array Slot} (hs : fX0_hold_77 kh kx σ x2 x3 x4 x5 x6 = some Rr) (G : Gd b D cI cZ cO σ s.heap H locs) (hl : lv_has ls 8 [(0, .ref (b + 16)), (2, .int x2), (3, .int x3), (4, .int x4), (5, .int x5), (6, .int x6)]) : W p l e rmX0_hold s m args below meth c H locs 0 0 (MQ below (QV b D cI cZ cO Rr) args s 0 0 (fun q => b ≤ q)) (F0 m 77 ls []) := by
  have hx := C.1
  have hb := C.2.1
  unfold fX0_hold_77 at hs
  refine lv_iconst (v := 0) hx hb dX0_hold_77 (by decide) ?_
  exact wX0_hold_78 C  hh hxx hs G (lv_sub hl [0, 1, 2, 3, 4, 5] rfl)
def fX0_hold_13b (kh : Sg → Int32 → Int32 → Int32 → Int32 → Int32 → Option Sg) (kx : Sg → Option Sg) (σ : Sg) (x2 : Int32) (x3 : Int32) (x4 : Int32) (x5 : Int32) (x6 : Int32) : Option Sg :=
  (if x4 ≤ x6 then kx σ else (if (σ 16 0) ≤ 0 then kx σ else bi (fX0_gotOff σ x2 x3 x5 x6) (fun r_5 σ_5 => lt (st σ_5 16 0 (if 0 < ((σ 16 0) - r_5) then ((σ 16 0) - r_5) else 0)) (fun σ_6 => lt (st σ_6 16 1 (x6 + 1)) (fun σ_7 => (if x4 ≤ (σ_7 16 1) then fX0_hold_77 kh kx σ_7 x2 x3 x4 x5 x6 else (if (σ_7 16 0) ≤ 0 then fX0_hold_77 kh kx σ_7 x2 x3 x4 x5 x6 else fX0_hold_78 kh kx σ_7 x2 x3 x4 x5 x6 1)))))))
set_option maxRecDepth 100000 in
set_option maxHeartbeats 4000000 in
theorem wX0_hold_13b {p : Program} {l : Launch} {e : Env} {s : State} {m : MethodId} {args : Array Value} {below : List Frame} {meth : Method} {c : Code} {D : va_G} {cI cZ cO : ClassId} {b : Nat} (C : Cx p s m args meth c cX0_hold RX0 8 none D cI cZ cO) {Rr : Sg} {kh : Sg → Int32 → Int32 → Int32 → Int32 → Int32 → Option Sg} {kx : Sg → Option Sg} (hh : ∀ (σ : Sg) (x2 : Int32) (x3 : Int32) (x4 : Int32) (x5 : Int32) (x6 : Int32) (H : Heap) (locs : List Loc) (ls : Array Slot), kh σ x2 x3 x4 x5 x6 = some Rr → Gd b D cI cZ cO σ s.heap H locs → lv_has ls 8 [(0, .ref (b + 16)), (2, .int x2), (3, .int x3), (4, .int x4), (5, .int x5), (6, .int x6)] → W p l e rmX0_hold s m args below meth c H locs 0 0 (MQ below (QV b D cI cZ cO Rr) args s 0 0 (fun q => b ≤ q)) (F0 m 13 ls [])) (hxx : ∀ (σ : Sg) (H : Heap) (locs : List Loc) (ls : Array Slot), kx σ = some Rr → Gd b D cI cZ cO σ s.heap H locs → lv_has ls 8 [] → W p l e rmX0_hold s m args below meth c H locs 0 0 (MQ below (QV b D cI cZ cO Rr) args s 0 0 (fun q => b ≤ q)) (F0 m 115 ls [])) {σ : Sg} {x2 : Int32} {x3 : Int32} {x4 : Int32} {x5 : Int32} {x6 : Int32} {H : Heap} {locs : List Loc} {ls : Array Slot} (hs : fX0_hold_13b kh kx σ x2 x3 x4 x5 x6 = some Rr) (G : Gd b D cI cZ cO σ s.heap H locs) (hl : lv_has ls 8 [(0, .ref (b + 16)), (2, .int x2), (3, .int x3), (4, .int x4), (5, .int x5), (6, .int x6)]) : W p l e rmX0_hold s m args below meth c H locs 0 0 (MQ below (QV b D cI cZ cO Rr) args s 0 0 (fun q => b ≤ q)) (F0 m 13 ls []) := by
  have hx := C.1
  have hb := C.2.1
  unfold fX0_hold_13b at hs
  refine lv_iload hx hb dX0_hold_13 (lv_at hl 5 rfl) ?_
  refine lv_iload hx hb dX0_hold_15 (lv_at hl 3 rfl) ?_
  refine lv_icmp_ge (tgt := 115) hx hb dX0_hold_17 (by decide) (fun c_3 => ?_) (fun c_3 => ?_)
  · replace hs := ifT c_3 hs
    exact hxx _ _ _ _ hs G (lv_sub hl [] rfl)
  · replace hs := ifF c_3 hs
    refine lv_aload_n hx hb dX0_hold_20 rfl (lv_at hl 0 rfl) ?_
    refine gf_X0_9 C G kd_16 dX0_hold_21 ?_
    refine lv_if_le (tgt := 115) hx hb dX0_hold_24 (by decide) (fun c_4 => ?_) (fun c_4 => ?_)
    · replace hs := ifT c_4 hs
      exact hxx _ _ _ _ hs G (lv_sub hl [] rfl)
    · replace hs := ifF c_4 hs
      refine lv_aload_n hx hb dX0_hold_27 rfl (lv_at hl 0 rfl) ?_
      refine lv_iconst (v := 0) hx hb dX0_hold_28 (by decide) ?_
      refine lv_aload_n hx hb dX0_hold_29 rfl (lv_at hl 0 rfl) ?_
      refine gf_X0_9 C G kd_16 dX0_hold_30 ?_
      refine lv_iload_n hx hb dX0_hold_33 rfl (lv_at hl 1 rfl) ?_
      refine lv_iload_n hx hb dX0_hold_34 rfl (lv_at hl 2 rfl) ?_
      refine lv_iload hx hb dX0_hold_35 (lv_at hl 4 rfl) ?_
      refine lv_iload hx hb dX0_hold_37 (lv_at hl 5 rfl) ?_
      obtain ⟨r_5, σ_5, hc, hs⟩ := biE hs
      refine callSI (ar := 4) (As := [.int x2, .int x3, .int x5, .int x6]) (rest := [.int (σ 16 0), .int 0, .ref (b + 16)]) C G hl.1 (ctX0_gotOff _  hc) ⟨wd_610, wd_611, wd_74, wd_612⟩ (by decide +kernel) rfl ⟨rfl, rfl⟩ ⟨Nat.le_of_ble_eq_true rfl, Nat.le_of_ble_eq_true rfl⟩ (Nat.le_of_ble_eq_true rfl) ⟨Nat.le_of_ble_eq_true rfl, Nat.le_of_ble_eq_true rfl⟩ dX0_hold_39 rfl (fun H locs G => ?_)
      refine lv_isub hx hb dX0_hold_42 ?_
      refine m_max C hl.1 wd_613 (Nat.le_of_ble_eq_true rfl) (Nat.le_of_ble_eq_true rfl) (Nat.le_of_ble_eq_true rfl) (Nat.le_of_ble_eq_true rfl) dX0_hold_43 ?_
      refine pf_X0_9 C G kd_16 hs dX0_hold_46 (fun σ_6 H locs hs G => ?_)
      refine lv_aload_n hx hb dX0_hold_49 rfl (lv_at hl 0 rfl) ?_
      refine lv_iload hx hb dX0_hold_50 (lv_at hl 5 rfl) ?_
      refine lv_iconst (v := 1) hx hb dX0_hold_52 (by decide) ?_
      refine lv_iadd hx hb dX0_hold_53 ?_
      refine pf_X0_15 C G kd_16 hs dX0_hold_54 (fun σ_7 H locs hs G => ?_)
      refine lv_aload_n hx hb dX0_hold_57 rfl (lv_at hl 0 rfl) ?_
      refine gf_X0_15 C G kd_16 dX0_hold_58 ?_
      refine lv_iload hx hb dX0_hold_61 (lv_at hl 3 rfl) ?_
      refine lv_icmp_ge (tgt := 77) hx hb dX0_hold_63 (by decide) (fun c_8 => ?_) (fun c_8 => ?_)
      · replace hs := ifT c_8 hs
        exact wX0_hold_77 C  hh hxx hs G (lv_sub hl [0, 1, 2, 3, 4, 5] rfl)
      · replace hs := ifF c_8 hs
        refine lv_aload_n hx hb dX0_hold_66 rfl (lv_at hl 0 rfl) ?_
        refine gf_X0_9 C G kd_16 dX0_hold_67 ?_
        refine lv_if_le (tgt := 77) hx hb dX0_hold_70 (by decide) (fun c_13 => ?_) (fun c_13 => ?_)
        · replace hs := ifT c_13 hs
          exact wX0_hold_77 C  hh hxx hs G (lv_sub hl [0, 1, 2, 3, 4, 5] rfl)
        · replace hs := ifF c_13 hs
          refine lv_iconst (v := 1) hx hb dX0_hold_73 (by decide) ?_
          refine lv_goto (tgt := 78) hx hb dX0_hold_74 (by decide) ?_
          exact wX0_hold_78 C  hh hxx hs G (lv_sub hl [0, 1, 2, 3, 4, 5] rfl)
def fX0_hold_13 : Nat → (Sg → Option Sg) → Sg → Int32 → Int32 → Int32 → Int32 → Int32 → Option Sg
  | 0, _, _, _, _, _, _, _ => none
  | fu + 1, kx, σ, x2, x3, x4, x5, x6 => fX0_hold_13b (fX0_hold_13 fu kx) kx σ x2 x3 x4 x5 x6
theorem fX0_hold_13_s (fu : Nat) (kx : Sg → Option Sg) (σ : Sg) (x2 : Int32) (x3 : Int32) (x4 : Int32) (x5 : Int32) (x6 : Int32) : fX0_hold_13 (fu + 1) kx σ x2 x3 x4 x5 x6 = fX0_hold_13b (fX0_hold_13 fu kx) kx σ x2 x3 x4 x5 x6 := by rw [fX0_hold_13]
theorem wX0_hold_13 {p : Program} {l : Launch} {e : Env} {s : State} {m : MethodId} {args : Array Value} {below : List Frame} {meth : Method} {c : Code} {D : va_G} {cI cZ cO : ClassId} {b : Nat} (C : Cx p s m args meth c cX0_hold RX0 8 none D cI cZ cO) {Rr : Sg} {kx : Sg → Option Sg} (hxx : ∀ (σ : Sg) (H : Heap) (locs : List Loc) (ls : Array Slot), kx σ = some Rr → Gd b D cI cZ cO σ s.heap H locs → lv_has ls 8 [] → W p l e rmX0_hold s m args below meth c H locs 0 0 (MQ below (QV b D cI cZ cO Rr) args s 0 0 (fun q => b ≤ q)) (F0 m 115 ls [])) : ∀ (fu : Nat) (σ : Sg) (x2 : Int32) (x3 : Int32) (x4 : Int32) (x5 : Int32) (x6 : Int32) (H : Heap) (locs : List Loc) (ls : Array Slot), fX0_hold_13 fu kx σ x2 x3 x4 x5 x6 = some Rr → Gd b D cI cZ cO σ s.heap H locs → lv_has ls 8 [(0, .ref (b + 16)), (2, .int x2), (3, .int x3), (4, .int x4), (5, .int x5), (6, .int x6)] → W p l e rmX0_hold s m args below meth c H locs 0 0 (MQ below (QV b D cI cZ cO Rr) args s 0 0 (fun q => b ≤ q)) (F0 m 13 ls []) := by
  intro fu
  induction fu with
  | zero => intro σ x2 x3 x4 x5 x6 H locs ls hs; cases hs
  | succ fu ih =>
    intro σ x2 x3 x4 x5 x6 H locs ls hs G hl
    exact wX0_hold_13b C (fun σ x2 x3 x4 x5 x6 H locs ls hs G hl => ih σ x2 x3 x4 x5 x6 H locs ls hs G hl) hxx hs G hl
def fX0_hold (σ : Sg) (x1 : Int32) (x2 : Int32) (x3 : Int32) (x4 : Int32) (x5 : Int32) : Option Sg :=
  lt (st σ 16 0 x1) (fun σ_1 => lt (st σ_1 16 1 0) (fun σ_2 => fX0_hold_13 FU (fun σ_14 => some σ_14) σ_2 x2 x3 x4 x5 0))
set_option maxRecDepth 100000 in
set_option maxHeartbeats 4000000 in
theorem ctX0_hold (l : Launch) {D : va_G} {cI cZ cO : ClassId} {b : Nat} {σ : Sg} {x1 : Int32} {x2 : Int32} {x3 : Int32} {x4 : Int32} {x5 : Int32} {Rr : Sg} (hs : fX0_hold σ x1 x2 x3 x4 x5 = some Rr) : MV l yX0_hold cX0_hold 8 rmX0_hold [.ref (b + 16), .int x1, .int x2, .int x3, .int x4, .int x5] b D cI cZ cO σ Rr := by
  unfold fX0_hold at hs
  refine metV (by decide +kernel) (Nat.le_of_ble_eq_true rfl) (fun p e s m below meth c ls C G hl => ?_)
  have C : Cx p s m _ meth c cX0_hold RX0 8 none D cI cZ cO := C
  have hx := C.1
  have hb := C.2.1
  have hl : lv_has ls 8 [(0, .ref (b + 16)), (1, .int x1), (2, .int x2), (3, .int x3), (4, .int x4), (5, .int x5)] := hl
  refine lv_aload_n hx hb dX0_hold_0 rfl (lv_at hl 0 rfl) ?_
  refine lv_iload_n hx hb dX0_hold_1 rfl (lv_at hl 1 rfl) ?_
  refine pf_X0_9 C G kd_16 hs dX0_hold_2 (fun σ_1 H locs hs G => ?_)
  refine lv_aload_n hx hb dX0_hold_5 rfl (lv_at hl 0 rfl) ?_
  refine lv_iconst (v := 0) hx hb dX0_hold_6 (by decide) ?_
  refine pf_X0_15 C G kd_16 hs dX0_hold_7 (fun σ_2 H locs hs G => ?_)
  refine lv_iconst (v := 0) hx hb dX0_hold_10 (by decide) ?_
  refine lv_istore (lv' := [(6, .int 0), (0, .ref (b + 16)), (1, .int x1), (2, .int x2), (3, .int x3), (4, .int x4), (5, .int x5)]) hx hb dX0_hold_11 hl (by decide) rfl (fun ls hl => ?_)
  refine wX0_hold_13 C (fun σ_14 H locs ls hs G hl => ?_) FU _ _ _ _ _ _ _ _ _ hs G (lv_sub hl [1, 3, 4, 5, 6, 0] rfl)
  exact retV C G hs dX0_hold_115
-- X1_add
def rmX1_add : Room := { frames := 0, cells := 0, slots := 0, locals := 0 }
def fX1_add (σ : Sg) (x1 : Int32) (x2 : Int32) : Option Sg :=
  (if (σ 117 0) < 15 then (if inb (σ 117 0) 15 then lt (st σ 118 (σ 117 0).toNatClampNeg x1) (fun σ_2 => (if inb (σ_2 117 0) 15 then lt (st σ_2 119 (σ_2 117 0).toNatClampNeg x2) (fun σ_3 => lt (st σ_3 117 0 ((σ_3 117 0) + 1)) (fun σ_4 => some σ_4)) else none)) else none) else some σ)
set_option maxRecDepth 100000 in
set_option maxHeartbeats 4000000 in
theorem ctX1_add (l : Launch) {D : va_G} {cI cZ cO : ClassId} {b : Nat} {σ : Sg} {x1 : Int32} {x2 : Int32} {Rr : Sg} (hs : fX1_add σ x1 x2 = some Rr) : MV l yX1_add cX1_add 3 rmX1_add [.ref (b + 117), .int x1, .int x2] b D cI cZ cO σ Rr := by
  unfold fX1_add at hs
  refine metV (by decide +kernel) (Nat.le_of_ble_eq_true rfl) (fun p e s m below meth c ls C G hl => ?_)
  have C : Cx p s m _ meth c cX1_add RX1 3 none D cI cZ cO := C
  have hx := C.1
  have hb := C.2.1
  have hl : lv_has ls 3 [(0, .ref (b + 117)), (1, .int x1), (2, .int x2)] := hl
  refine lv_aload_n hx hb dX1_add_0 rfl (lv_at hl 0 rfl) ?_
  refine gf_X1_18 C G kd_117 dX1_add_1 ?_
  refine lv_bipush (v := 15) hx hb dX1_add_4 (by decide) ?_
  refine lv_icmp_lt (tgt := 10) hx hb dX1_add_6 (by decide) (fun c_1 => ?_) (fun c_1 => ?_)
  · replace hs := ifT c_1 hs
    refine lv_aload_n hx hb dX1_add_10 rfl (lv_at hl 0 rfl) ?_
    refine gf_X1_9 C G kd_117 (n' := 118) rfl dX1_add_11 ?_
    refine lv_aload_n hx hb dX1_add_14 rfl (lv_at hl 0 rfl) ?_
    refine gf_X1_18 C G kd_117 dX1_add_15 ?_
    refine lv_iload_n hx hb dX1_add_18 rfl (lv_at hl 1 rfl) ?_
    obtain ⟨g_2, hs⟩ := gdE hs
    refine m_iast C G kd_118 ln_118 g_2 hs dX1_add_19 (fun σ_2 H locs hs G => ?_)
    refine lv_aload_n hx hb dX1_add_20 rfl (lv_at hl 0 rfl) ?_
    refine gf_X1_15 C G kd_117 (n' := 119) rfl dX1_add_21 ?_
    refine lv_aload_n hx hb dX1_add_24 rfl (lv_at hl 0 rfl) ?_
    refine gf_X1_18 C G kd_117 dX1_add_25 ?_
    refine lv_iload_n hx hb dX1_add_28 rfl (lv_at hl 2 rfl) ?_
    obtain ⟨g_3, hs⟩ := gdE hs
    refine m_iast C G kd_119 ln_119 g_3 hs dX1_add_29 (fun σ_3 H locs hs G => ?_)
    refine lv_aload_n hx hb dX1_add_30 rfl (lv_at hl 0 rfl) ?_
    refine lv_dup hx hb dX1_add_31 rfl ?_
    refine gf_X1_18 C G kd_117 dX1_add_32 ?_
    refine lv_iconst (v := 1) hx hb dX1_add_35 (by decide) ?_
    refine lv_iadd hx hb dX1_add_36 ?_
    refine pf_X1_18 C G kd_117 hs dX1_add_37 (fun σ_4 H locs hs G => ?_)
    exact retV C G hs dX1_add_40
  · replace hs := ifF c_1 hs
    exact retV C G hs dX1_add_9
-- X1_firstFalse
def rmX1_firstFalse : Room := { frames := 0, cells := 0, slots := 0, locals := 0 }
def fX1_firstFalse_2b (n1 : Nat) (kh : Sg → Int32 → Option (Int32 × Sg)) (kx : Sg → Option (Int32 × Sg)) (σ : Sg) (x2 : Int32) : Option (Int32 × Sg) :=
  (if (σ 117 0) ≤ x2 then kx σ else (if inb x2 15 then (if inb (σ 118 x2.toNatClampNeg) (ln n1) then (if inb x2 15 then (if (σ n1 (σ 118 x2.toNatClampNeg).toNatClampNeg) = (σ 119 x2.toNatClampNeg) then lt (x2 + 1) (fun x2_6 => kh σ x2_6) else some (x2, σ)) else none) else none) else none))
set_option maxRecDepth 100000 in
set_option maxHeartbeats 4000000 in
theorem wX1_firstFalse_2b {p : Program} {l : Launch} {e : Env} {s : State} {m : MethodId} {args : Array Value} {below : List Frame} {meth : Method} {c : Code} {D : va_G} {cI cZ cO : ClassId} {b : Nat} (C : Cx p s m args meth c cX1_firstFalse RX1 3 (some .int) D cI cZ cO) {n1 : Nat} (hk1 : kd n1 = 13) {Rr : (Int32 × Sg)} {kh : Sg → Int32 → Option (Int32 × Sg)} {kx : Sg → Option (Int32 × Sg)} (hh : ∀ (σ : Sg) (x2 : Int32) (H : Heap) (locs : List Loc) (ls : Array Slot), kh σ x2 = some Rr → Gd b D cI cZ cO σ s.heap H locs → lv_has ls 3 [(0, .ref (b + 117)), (1, .ref (b + n1)), (2, .int x2)] → W p l e rmX1_firstFalse s m args below meth c H locs 0 0 (MQ below (QI b D cI cZ cO Rr) args s 0 0 (fun q => b ≤ q)) (F0 m 2 ls [])) (hxx : ∀ (σ : Sg) (H : Heap) (locs : List Loc) (ls : Array Slot), kx σ = some Rr → Gd b D cI cZ cO σ s.heap H locs → lv_has ls 3 [] → W p l e rmX1_firstFalse s m args below meth c H locs 0 0 (MQ below (QI b D cI cZ cO Rr) args s 0 0 (fun q => b ≤ q)) (F0 m 35 ls [])) {σ : Sg} {x2 : Int32} {H : Heap} {locs : List Loc} {ls : Array Slot} (hs : fX1_firstFalse_2b n1 kh kx σ x2 = some Rr) (G : Gd b D cI cZ cO σ s.heap H locs) (hl : lv_has ls 3 [(0, .ref (b + 117)), (1, .ref (b + n1)), (2, .int x2)]) : W p l e rmX1_firstFalse s m args below meth c H locs 0 0 (MQ below (QI b D cI cZ cO Rr) args s 0 0 (fun q => b ≤ q)) (F0 m 2 ls []) := by
  have hx := C.1
  have hb := C.2.1
  unfold fX1_firstFalse_2b at hs
  refine lv_iload_n hx hb dX1_firstFalse_2 rfl (lv_at hl 2 rfl) ?_
  refine lv_aload_n hx hb dX1_firstFalse_3 rfl (lv_at hl 0 rfl) ?_
  refine gf_X1_18 C G kd_117 dX1_firstFalse_4 ?_
  refine lv_icmp_ge (tgt := 35) hx hb dX1_firstFalse_7 (by decide) (fun c_1 => ?_) (fun c_1 => ?_)
  · replace hs := ifT c_1 hs
    exact hxx _ _ _ _ hs G (lv_sub hl [] rfl)
  · replace hs := ifF c_1 hs
    refine lv_aload_n hx hb dX1_firstFalse_10 rfl (lv_at hl 1 rfl) ?_
    refine lv_aload_n hx hb dX1_firstFalse_11 rfl (lv_at hl 0 rfl) ?_
    refine gf_X1_9 C G kd_117 (n' := 118) rfl dX1_firstFalse_12 ?_
    refine lv_iload_n hx hb dX1_firstFalse_15 rfl (lv_at hl 2 rfl) ?_
    obtain ⟨g_2, hs⟩ := gdE hs
    refine m_iald C G kd_118 ln_118 g_2 dX1_firstFalse_16 ?_
    obtain ⟨g_3, hs⟩ := gdE hs
    refine m_iald C G hk1 rfl g_3 dX1_firstFalse_17 ?_
    refine lv_aload_n hx hb dX1_firstFalse_18 rfl (lv_at hl 0 rfl) ?_
    refine gf_X1_15 C G kd_117 (n' := 119) rfl dX1_firstFalse_19 ?_
    refine lv_iload_n hx hb dX1_firstFalse_22 rfl (lv_at hl 2 rfl) ?_
    obtain ⟨g_4, hs⟩ := gdE hs
    refine m_iald C G kd_119 ln_119 g_4 dX1_firstFalse_23 ?_
    refine lv_icmp_eq (tgt := 29) hx hb dX1_firstFalse_24 (by decide) (fun c_5 => ?_) (fun c_5 => ?_)
    · replace hs := ifT c_5 hs
      obtain ⟨x2_6, e_6, hs⟩ := ltE hs
      refine lv_iinc (v := x2_6) (lv' := [(2, .int x2_6), (0, .ref (b + 117)), (1, .ref (b + n1))]) hx hb dX1_firstFalse_29 hl (k := 2) rfl (by rw [e_6]; rfl) (by decide) rfl (fun ls hl => ?_)
      refine lv_goto (tgt := 2) hx hb dX1_firstFalse_32 (by decide) ?_
      exact hh _ _ _ _ _ hs G (lv_sub hl [1, 2, 0] rfl)
    · replace hs := ifF c_5 hs
      refine lv_iload_n hx hb dX1_firstFalse_27 rfl (lv_at hl 2 rfl) ?_
      exact retI C G hs dX1_firstFalse_28
def fX1_firstFalse_2 (n1 : Nat) : Nat → (Sg → Option (Int32 × Sg)) → Sg → Int32 → Option (Int32 × Sg)
  | 0, _, _, _ => none
  | fu + 1, kx, σ, x2 => fX1_firstFalse_2b n1 (fX1_firstFalse_2 n1 fu kx) kx σ x2
theorem fX1_firstFalse_2_s (n1 : Nat) (fu : Nat) (kx : Sg → Option (Int32 × Sg)) (σ : Sg) (x2 : Int32) : fX1_firstFalse_2 n1 (fu + 1) kx σ x2 = fX1_firstFalse_2b n1 (fX1_firstFalse_2 n1 fu kx) kx σ x2 := by rw [fX1_firstFalse_2]
theorem wX1_firstFalse_2 {p : Program} {l : Launch} {e : Env} {s : State} {m : MethodId} {args : Array Value} {below : List Frame} {meth : Method} {c : Code} {D : va_G} {cI cZ cO : ClassId} {b : Nat} (C : Cx p s m args meth c cX1_firstFalse RX1 3 (some .int) D cI cZ cO) {n1 : Nat} (hk1 : kd n1 = 13) {Rr : (Int32 × Sg)} {kx : Sg → Option (Int32 × Sg)} (hxx : ∀ (σ : Sg) (H : Heap) (locs : List Loc) (ls : Array Slot), kx σ = some Rr → Gd b D cI cZ cO σ s.heap H locs → lv_has ls 3 [] → W p l e rmX1_firstFalse s m args below meth c H locs 0 0 (MQ below (QI b D cI cZ cO Rr) args s 0 0 (fun q => b ≤ q)) (F0 m 35 ls [])) : ∀ (fu : Nat) (σ : Sg) (x2 : Int32) (H : Heap) (locs : List Loc) (ls : Array Slot), fX1_firstFalse_2 n1 fu kx σ x2 = some Rr → Gd b D cI cZ cO σ s.heap H locs → lv_has ls 3 [(0, .ref (b + 117)), (1, .ref (b + n1)), (2, .int x2)] → W p l e rmX1_firstFalse s m args below meth c H locs 0 0 (MQ below (QI b D cI cZ cO Rr) args s 0 0 (fun q => b ≤ q)) (F0 m 2 ls []) := by
  intro fu
  induction fu with
  | zero => intro σ x2 H locs ls hs; cases hs
  | succ fu ih =>
    intro σ x2 H locs ls hs G hl
    exact wX1_firstFalse_2b C hk1 (fun σ x2 H locs ls hs G hl => ih σ x2 H locs ls hs G hl) hxx hs G hl
def fX1_firstFalse (n1 : Nat) (σ : Sg) : Option (Int32 × Sg) :=
  fX1_firstFalse_2 n1 FU (fun σ_7 => some ((-1), σ_7)) σ 0
set_option maxRecDepth 100000 in
set_option maxHeartbeats 4000000 in
theorem ctX1_firstFalse (l : Launch) {n1 : Nat} (hk1 : kd n1 = 13) {D : va_G} {cI cZ cO : ClassId} {b : Nat} {σ : Sg} {Rr : (Int32 × Sg)} (hs : fX1_firstFalse n1 σ = some Rr) : MI l yX1_firstFalse cX1_firstFalse 3 (some .int) rmX1_firstFalse [.ref (b + 117), .ref (b + n1)] b D cI cZ cO σ Rr := by
  unfold fX1_firstFalse at hs
  refine metI (by decide +kernel) (Nat.le_of_ble_eq_true rfl) (fun p e s m below meth c ls C G hl => ?_)
  have C : Cx p s m _ meth c cX1_firstFalse RX1 3 (some .int) D cI cZ cO := C
  have hx := C.1
  have hb := C.2.1
  have hl : lv_has ls 3 [(0, .ref (b + 117)), (1, .ref (b + n1))] := hl
  refine lv_iconst (v := 0) hx hb dX1_firstFalse_0 (by decide) ?_
  refine lv_istore_n (lv' := [(2, .int 0), (0, .ref (b + 117)), (1, .ref (b + n1))]) hx hb dX1_firstFalse_1 rfl hl (by decide) rfl (fun ls hl => ?_)
  refine wX1_firstFalse_2 C hk1 (fun σ_7 H locs ls hs G hl => ?_) FU _ _ _ _ _ hs G (lv_sub hl [1, 2, 0] rfl)
  refine lv_iconst (v := (-1)) hx hb dX1_firstFalse_35 (by decide) ?_
  exact retI C G hs dX1_firstFalse_36
-- X2_isPerson
def rmX2_isPerson : Room := { frames := 0, cells := 0, slots := 0, locals := 0 }
def fX2_isPerson_19 (σ : Sg) : Option (Int32 × Sg) :=
  some (0, σ)
set_option maxRecDepth 100000 in
set_option maxHeartbeats 4000000 in
theorem wX2_isPerson_19 {p : Program} {l : Launch} {e : Env} {s : State} {m : MethodId} {args : Array Value} {below : List Frame} {meth : Method} {c : Code} {D : va_G} {cI cZ cO : ClassId} {b : Nat} (C : Cx p s m args meth c cX2_isPerson RX2 2 (some .boolean) D cI cZ cO) {Rr : (Int32 × Sg)} {σ : Sg} {H : Heap} {locs : List Loc} {ls : Array Slot} (hs : fX2_isPerson_19 σ = some Rr) (G : Gd b D cI cZ cO σ s.heap H locs) (hl : lv_has ls 2 []) : W p l e rmX2_isPerson s m args below meth c H locs 0 0 (MQ below (QI b D cI cZ cO Rr) args s 0 0 (fun q => b ≤ q)) (F0 m 19 ls []) := by
  have hx := C.1
  have hb := C.2.1
  unfold fX2_isPerson_19 at hs
  refine lv_iconst (v := 0) hx hb dX2_isPerson_19 (by decide) ?_
  exact retZ C G (by decide) hs dX2_isPerson_20
def fX2_isPerson (σ : Sg) (x1 : Int32) : Option (Int32 × Sg) :=
  (if x1 < 0 then fX2_isPerson_19 σ else gk 4 (dn (σ 3 0)) (fun n_2 => (if (σ n_2 4) ≤ x1 then fX2_isPerson_19 σ else some (1, σ))))
set_option maxRecDepth 100000 in
set_option maxHeartbeats 4000000 in
theorem ctX2_isPerson (l : Launch) {D : va_G} {cI cZ cO : ClassId} {b : Nat} {σ : Sg} {x1 : Int32} {Rr : (Int32 × Sg)} (hs : fX2_isPerson σ x1 = some Rr) : MI l yX2_isPerson cX2_isPerson 2 (some .boolean) rmX2_isPerson [.ref (b + 3), .int x1] b D cI cZ cO σ Rr := by
  unfold fX2_isPerson at hs
  refine metI (by decide +kernel) (Nat.le_of_ble_eq_true rfl) (fun p e s m below meth c ls C G hl => ?_)
  have C : Cx p s m _ meth c cX2_isPerson RX2 2 (some .boolean) D cI cZ cO := C
  have hx := C.1
  have hb := C.2.1
  have hl : lv_has ls 2 [(0, .ref (b + 3)), (1, .int x1)] := hl
  refine lv_iload_n hx hb dX2_isPerson_0 rfl (lv_at hl 1 rfl) ?_
  refine lv_if_lt (tgt := 19) hx hb dX2_isPerson_1 (by decide) (fun c_1 => ?_) (fun c_1 => ?_)
  · replace hs := ifT c_1 hs
    exact wX2_isPerson_19 C   hs G (lv_sub hl [] rfl)
  · replace hs := ifF c_1 hs
    refine lv_iload_n hx hb dX2_isPerson_4 rfl (lv_at hl 1 rfl) ?_
    refine lv_aload_n hx hb dX2_isPerson_5 rfl (lv_at hl 0 rfl) ?_
    obtain ⟨n_2, en_2, hk_2, hs⟩ := gkE hs
    refine gf_X2_12 C G kd_3 en_2 dX2_isPerson_6 ?_
    refine gf_X2_32 C G hk_2 dX2_isPerson_9 ?_
    refine lv_icmp_ge (tgt := 19) hx hb dX2_isPerson_12 (by decide) (fun c_3 => ?_) (fun c_3 => ?_)
    · replace hs := ifT c_3 hs
      exact wX2_isPerson_19 C   hs G (lv_sub hl [] rfl)
    · replace hs := ifF c_3 hs
      refine lv_iconst (v := 1) hx hb dX2_isPerson_15 (by decide) ?_
      refine lv_goto (tgt := 20) hx hb dX2_isPerson_16 (by decide) ?_
      exact retZ C G (by decide) hs dX2_isPerson_20
-- X2_isVillage
def rmX2_isVillage : Room := { frames := 0, cells := 0, slots := 0, locals := 0 }
def fX2_isVillage_19 (σ : Sg) : Option (Int32 × Sg) :=
  some (0, σ)
set_option maxRecDepth 100000 in
set_option maxHeartbeats 4000000 in
theorem wX2_isVillage_19 {p : Program} {l : Launch} {e : Env} {s : State} {m : MethodId} {args : Array Value} {below : List Frame} {meth : Method} {c : Code} {D : va_G} {cI cZ cO : ClassId} {b : Nat} (C : Cx p s m args meth c cX2_isVillage RX2 2 (some .boolean) D cI cZ cO) {Rr : (Int32 × Sg)} {σ : Sg} {H : Heap} {locs : List Loc} {ls : Array Slot} (hs : fX2_isVillage_19 σ = some Rr) (G : Gd b D cI cZ cO σ s.heap H locs) (hl : lv_has ls 2 []) : W p l e rmX2_isVillage s m args below meth c H locs 0 0 (MQ below (QI b D cI cZ cO Rr) args s 0 0 (fun q => b ≤ q)) (F0 m 19 ls []) := by
  have hx := C.1
  have hb := C.2.1
  unfold fX2_isVillage_19 at hs
  refine lv_iconst (v := 0) hx hb dX2_isVillage_19 (by decide) ?_
  exact retZ C G (by decide) hs dX2_isVillage_20
def fX2_isVillage (σ : Sg) (x1 : Int32) : Option (Int32 × Sg) :=
  (if x1 < 0 then fX2_isVillage_19 σ else gk 4 (dn (σ 3 0)) (fun n_2 => (if (σ n_2 3) ≤ x1 then fX2_isVillage_19 σ else some (1, σ))))
set_option maxRecDepth 100000 in
set_option maxHeartbeats 4000000 in
theorem ctX2_isVillage (l : Launch) {D : va_G} {cI cZ cO : ClassId} {b : Nat} {σ : Sg} {x1 : Int32} {Rr : (Int32 × Sg)} (hs : fX2_isVillage σ x1 = some Rr) : MI l yX2_isVillage cX2_isVillage 2 (some .boolean) rmX2_isVillage [.ref (b + 3), .int x1] b D cI cZ cO σ Rr := by
  unfold fX2_isVillage at hs
  refine metI (by decide +kernel) (Nat.le_of_ble_eq_true rfl) (fun p e s m below meth c ls C G hl => ?_)
  have C : Cx p s m _ meth c cX2_isVillage RX2 2 (some .boolean) D cI cZ cO := C
  have hx := C.1
  have hb := C.2.1
  have hl : lv_has ls 2 [(0, .ref (b + 3)), (1, .int x1)] := hl
  refine lv_iload_n hx hb dX2_isVillage_0 rfl (lv_at hl 1 rfl) ?_
  refine lv_if_lt (tgt := 19) hx hb dX2_isVillage_1 (by decide) (fun c_1 => ?_) (fun c_1 => ?_)
  · replace hs := ifT c_1 hs
    exact wX2_isVillage_19 C   hs G (lv_sub hl [] rfl)
  · replace hs := ifF c_1 hs
    refine lv_iload_n hx hb dX2_isVillage_4 rfl (lv_at hl 1 rfl) ?_
    refine lv_aload_n hx hb dX2_isVillage_5 rfl (lv_at hl 0 rfl) ?_
    obtain ⟨n_2, en_2, hk_2, hs⟩ := gkE hs
    refine gf_X2_12 C G kd_3 en_2 dX2_isVillage_6 ?_
    refine gf_X2_36 C G hk_2 dX2_isVillage_9 ?_
    refine lv_icmp_ge (tgt := 19) hx hb dX2_isVillage_12 (by decide) (fun c_3 => ?_) (fun c_3 => ?_)
    · replace hs := ifT c_3 hs
      exact wX2_isVillage_19 C   hs G (lv_sub hl [] rfl)
    · replace hs := ifF c_3 hs
      refine lv_iconst (v := 1) hx hb dX2_isVillage_15 (by decide) ?_
      refine lv_goto (tgt := 20) hx hb dX2_isVillage_16 (by decide) ?_
      exact retZ C G (by decide) hs dX2_isVillage_20
-- X4_everybody
def rmX4_everybody : Room := { frames := 0, cells := 0, slots := 0, locals := 0 }
def fX4_everybody (n0 : Nat) (σ : Sg) : Option (Int32 × Sg) :=
  some ((((1 : Int32) <<< ((σ n0 4) &&& 31)) - 1), σ)
set_option maxRecDepth 100000 in
set_option maxHeartbeats 4000000 in
theorem ctX4_everybody (l : Launch) {n0 : Nat} (hk0 : kd n0 = 4) {D : va_G} {cI cZ cO : ClassId} {b : Nat} {σ : Sg} {Rr : (Int32 × Sg)} (hs : fX4_everybody n0 σ = some Rr) : MI l yX4_everybody cX4_everybody 1 (some .int) rmX4_everybody [.ref (b + n0)] b D cI cZ cO σ Rr := by
  unfold fX4_everybody at hs
  refine metI (by decide +kernel) (Nat.le_of_ble_eq_true rfl) (fun p e s m below meth c ls C G hl => ?_)
  have C : Cx p s m _ meth c cX4_everybody RX4 1 (some .int) D cI cZ cO := C
  have hx := C.1
  have hb := C.2.1
  have hl : lv_has ls 1 [(0, .ref (b + n0))] := hl
  refine lv_iconst (v := 1) hx hb dX4_everybody_0 (by decide) ?_
  refine lv_aload_n hx hb dX4_everybody_1 rfl (lv_at hl 0 rfl) ?_
  refine gf_X4_44 C G hk0 dX4_everybody_2 ?_
  refine lv_ishl hx hb dX4_everybody_5 ?_
  refine lv_iconst (v := 1) hx hb dX4_everybody_6 (by decide) ?_
  refine lv_isub hx hb dX4_everybody_7 ?_
  exact retI C G hs dX4_everybody_8
-- X2_untold
def rmX2_untold : Room := { frames := 1, cells := 0, slots := 0, locals := 20 }
def fX2_untold (σ : Sg) : Option (Int32 × Sg) :=
  gk 4 (dn (σ 3 0)) (fun n_1 => bi (fX4_everybody n_1 σ) (fun r_2 σ_2 => some ((r_2 &&& ((σ_2 11 3) ^^^ (-1))), σ_2)))
set_option maxRecDepth 100000 in
set_option maxHeartbeats 4000000 in
theorem ctX2_untold (l : Launch) {D : va_G} {cI cZ cO : ClassId} {b : Nat} {σ : Sg} {Rr : (Int32 × Sg)} (hs : fX2_untold σ = some Rr) : MI l yX2_untold cX2_untold 1 (some .int) rmX2_untold [.ref (b + 3)] b D cI cZ cO σ Rr := by
  unfold fX2_untold at hs
  refine metI (by decide +kernel) (Nat.le_of_ble_eq_true rfl) (fun p e s m below meth c ls C G hl => ?_)
  have C : Cx p s m _ meth c cX2_untold RX2 1 (some .int) D cI cZ cO := C
  have hx := C.1
  have hb := C.2.1
  have hl : lv_has ls 1 [(0, .ref (b + 3))] := hl
  refine lv_aload_n hx hb dX2_untold_0 rfl (lv_at hl 0 rfl) ?_
  obtain ⟨n_1, en_1, hk_1, hs⟩ := gkE hs
  refine gf_X2_12 C G kd_3 en_1 dX2_untold_1 ?_
  obtain ⟨r_2, σ_2, hc, hs⟩ := biE hs
  refine callVI (ar := 0) (As := []) (rest := []) C G hl.1 (ctX4_everybody _ hk_1 hc) ⟨wd_529, wd_530, wd_531, wd_72, wd_532⟩ (by decide +kernel) rfl ⟨rfl, rfl⟩ ⟨Nat.le_of_ble_eq_true rfl, Nat.le_of_ble_eq_true rfl⟩ (kd_lt hk_1 (by decide)) (ent_4 b cI cZ cO _ hk_1) rfl (Nat.le_of_ble_eq_true rfl) ⟨Nat.le_of_ble_eq_true rfl, Nat.le_of_ble_eq_true rfl⟩ dX2_untold_4 rfl (fun H locs G => ?_)
  refine lv_aload_n hx hb dX2_untold_7 rfl (lv_at hl 0 rfl) ?_
  refine gf_X2_21 C G kd_3 (n' := 11) rfl dX2_untold_8 ?_
  refine gf_X2_43 C G kd_11 dX2_untold_11 ?_
  refine lv_iconst (v := (-1)) hx hb dX2_untold_14 (by decide) ?_
  refine lv_ixor hx hb dX2_untold_15 ?_
  refine lv_iand hx hb dX2_untold_16 ?_
  exact retI C G hs dX2_untold_17
-- X2_fateful
def rmX2_fateful : Room := { frames := 0, cells := 0, slots := 0, locals := 0 }
def fX2_fateful_33 (kh : Sg → Int32 → Int32 → Option (Int32 × Sg)) (kx : Sg → Int32 → Option (Int32 × Sg)) (σ : Sg) (x1 : Int32) (x2 : Int32) : Option (Int32 × Sg) :=
  lt (x2 + 1) (fun x2_5 => kh σ x1 x2_5)
set_option maxRecDepth 100000 in
set_option maxHeartbeats 4000000 in
theorem wX2_fateful_33 {p : Program} {l : Launch} {e : Env} {s : State} {m : MethodId} {args : Array Value} {below : List Frame} {meth : Method} {c : Code} {D : va_G} {cI cZ cO : ClassId} {b : Nat} (C : Cx p s m args meth c cX2_fateful RX2 3 (some .int) D cI cZ cO) {Rr : (Int32 × Sg)} {kh : Sg → Int32 → Int32 → Option (Int32 × Sg)} {kx : Sg → Int32 → Option (Int32 × Sg)} (hh : ∀ (σ : Sg) (x1 : Int32) (x2 : Int32) (H : Heap) (locs : List Loc) (ls : Array Slot), kh σ x1 x2 = some Rr → Gd b D cI cZ cO σ s.heap H locs → lv_has ls 3 [(0, .ref (b + 3)), (1, .int x1), (2, .int x2)] → W p l e rmX2_fateful s m args below meth c H locs 0 0 (MQ below (QI b D cI cZ cO Rr) args s 0 0 (fun q => b ≤ q)) (F0 m 4 ls [])) (hxx : ∀ (σ : Sg) (x1 : Int32) (H : Heap) (locs : List Loc) (ls : Array Slot), kx σ x1 = some Rr → Gd b D cI cZ cO σ s.heap H locs → lv_has ls 3 [(1, .int x1)] → W p l e rmX2_fateful s m args below meth c H locs 0 0 (MQ below (QI b D cI cZ cO Rr) args s 0 0 (fun q => b ≤ q)) (F0 m 39 ls [])) {σ : Sg} {x1 : Int32} {x2 : Int32} {H : Heap} {locs : List Loc} {ls : Array Slot} (hs : fX2_fateful_33 kh kx σ x1 x2 = some Rr) (G : Gd b D cI cZ cO σ s.heap H locs) (hl : lv_has ls 3 [(0, .ref (b + 3)), (1, .int x1), (2, .int x2)]) : W p l e rmX2_fateful s m args below meth c H locs 0 0 (MQ below (QI b D cI cZ cO Rr) args s 0 0 (fun q => b ≤ q)) (F0 m 33 ls []) := by
  have hx := C.1
  have hb := C.2.1
  unfold fX2_fateful_33 at hs
  obtain ⟨x2_5, e_5, hs⟩ := ltE hs
  refine lv_iinc (v := x2_5) (lv' := [(2, .int x2_5), (0, .ref (b + 3)), (1, .int x1)]) hx hb dX2_fateful_33 hl (k := 2) rfl (by rw [e_5]; rfl) (by decide) rfl (fun ls hl => ?_)
  refine lv_goto (tgt := 4) hx hb dX2_fateful_36 (by decide) ?_
  exact hh _ _ _ _ _ _ hs G (lv_sub hl [1, 2, 0] rfl)
def fX2_fateful_4b (kh : Sg → Int32 → Int32 → Option (Int32 × Sg)) (kx : Sg → Int32 → Option (Int32 × Sg)) (σ : Sg) (x1 : Int32) (x2 : Int32) : Option (Int32 × Sg) :=
  gk 4 (dn (σ 3 0)) (fun n_1 => (if (σ n_1 4) ≤ x2 then kx σ x1 else (if inb x2 7 then (if (σ 12 x2.toNatClampNeg) ≤ 0 then fX2_fateful_33 kh kx σ x1 x2 else lt (x1 ||| ((1 : Int32) <<< (x2 &&& 31))) (fun x1_6 => fX2_fateful_33 kh kx σ x1_6 x2)) else none)))
set_option maxRecDepth 100000 in
set_option maxHeartbeats 4000000 in
theorem wX2_fateful_4b {p : Program} {l : Launch} {e : Env} {s : State} {m : MethodId} {args : Array Value} {below : List Frame} {meth : Method} {c : Code} {D : va_G} {cI cZ cO : ClassId} {b : Nat} (C : Cx p s m args meth c cX2_fateful RX2 3 (some .int) D cI cZ cO) {Rr : (Int32 × Sg)} {kh : Sg → Int32 → Int32 → Option (Int32 × Sg)} {kx : Sg → Int32 → Option (Int32 × Sg)} (hh : ∀ (σ : Sg) (x1 : Int32) (x2 : Int32) (H : Heap) (locs : List Loc) (ls : Array Slot), kh σ x1 x2 = some Rr → Gd b D cI cZ cO σ s.heap H locs → lv_has ls 3 [(0, .ref (b + 3)), (1, .int x1), (2, .int x2)] → W p l e rmX2_fateful s m args below meth c H locs 0 0 (MQ below (QI b D cI cZ cO Rr) args s 0 0 (fun q => b ≤ q)) (F0 m 4 ls [])) (hxx : ∀ (σ : Sg) (x1 : Int32) (H : Heap) (locs : List Loc) (ls : Array Slot), kx σ x1 = some Rr → Gd b D cI cZ cO σ s.heap H locs → lv_has ls 3 [(1, .int x1)] → W p l e rmX2_fateful s m args below meth c H locs 0 0 (MQ below (QI b D cI cZ cO Rr) args s 0 0 (fun q => b ≤ q)) (F0 m 39 ls [])) {σ : Sg} {x1 : Int32} {x2 : Int32} {H : Heap} {locs : List Loc} {ls : Array Slot} (hs : fX2_fateful_4b kh kx σ x1 x2 = some Rr) (G : Gd b D cI cZ cO σ s.heap H locs) (hl : lv_has ls 3 [(0, .ref (b + 3)), (1, .int x1), (2, .int x2)]) : W p l e rmX2_fateful s m args below meth c H locs 0 0 (MQ below (QI b D cI cZ cO Rr) args s 0 0 (fun q => b ≤ q)) (F0 m 4 ls []) := by
  have hx := C.1
  have hb := C.2.1
  unfold fX2_fateful_4b at hs
  refine lv_iload_n hx hb dX2_fateful_4 rfl (lv_at hl 2 rfl) ?_
  refine lv_aload_n hx hb dX2_fateful_5 rfl (lv_at hl 0 rfl) ?_
  obtain ⟨n_1, en_1, hk_1, hs⟩ := gkE hs
  refine gf_X2_12 C G kd_3 en_1 dX2_fateful_6 ?_
  refine gf_X2_32 C G hk_1 dX2_fateful_9 ?_
  refine lv_icmp_ge (tgt := 39) hx hb dX2_fateful_12 (by decide) (fun c_2 => ?_) (fun c_2 => ?_)
  · replace hs := ifT c_2 hs
    exact hxx _ _ _ _ _ hs G (lv_sub hl [1] rfl)
  · replace hs := ifF c_2 hs
    refine lv_aload_n hx hb dX2_fateful_15 rfl (lv_at hl 0 rfl) ?_
    refine gf_X2_21 C G kd_3 (n' := 11) rfl dX2_fateful_16 ?_
    refine gf_X2_46 C G kd_11 (n' := 12) rfl dX2_fateful_19 ?_
    refine lv_iload_n hx hb dX2_fateful_22 rfl (lv_at hl 2 rfl) ?_
    obtain ⟨g_3, hs⟩ := gdE hs
    refine m_iald C G kd_12 ln_12 g_3 dX2_fateful_23 ?_
    refine lv_if_le (tgt := 33) hx hb dX2_fateful_24 (by decide) (fun c_4 => ?_) (fun c_4 => ?_)
    · replace hs := ifT c_4 hs
      exact wX2_fateful_33 C  hh hxx hs G (lv_sub hl [0, 1, 2] rfl)
    · replace hs := ifF c_4 hs
      refine lv_iload_n hx hb dX2_fateful_27 rfl (lv_at hl 1 rfl) ?_
      refine lv_iconst (v := 1) hx hb dX2_fateful_28 (by decide) ?_
      refine lv_iload_n hx hb dX2_fateful_29 rfl (lv_at hl 2 rfl) ?_
      refine lv_ishl hx hb dX2_fateful_30 ?_
      refine lv_ior hx hb dX2_fateful_31 ?_
      refine topI hs (fun x1_6 hs => ?_)
      refine lv_istore_n (lv' := [(1, .int x1_6), (0, .ref (b + 3)), (2, .int x2)]) hx hb dX2_fateful_32 rfl hl (by decide) rfl (fun ls hl => ?_)
      exact wX2_fateful_33 C  hh hxx hs G (lv_sub hl [1, 0, 2] rfl)
def fX2_fateful_4 : Nat → (Sg → Int32 → Option (Int32 × Sg)) → Sg → Int32 → Int32 → Option (Int32 × Sg)
  | 0, _, _, _, _ => none
  | fu + 1, kx, σ, x1, x2 => fX2_fateful_4b (fX2_fateful_4 fu kx) kx σ x1 x2
theorem fX2_fateful_4_s (fu : Nat) (kx : Sg → Int32 → Option (Int32 × Sg)) (σ : Sg) (x1 : Int32) (x2 : Int32) : fX2_fateful_4 (fu + 1) kx σ x1 x2 = fX2_fateful_4b (fX2_fateful_4 fu kx) kx σ x1 x2 := by rw [fX2_fateful_4]
theorem wX2_fateful_4 {p : Program} {l : Launch} {e : Env} {s : State} {m : MethodId} {args : Array Value} {below : List Frame} {meth : Method} {c : Code} {D : va_G} {cI cZ cO : ClassId} {b : Nat} (C : Cx p s m args meth c cX2_fateful RX2 3 (some .int) D cI cZ cO) {Rr : (Int32 × Sg)} {kx : Sg → Int32 → Option (Int32 × Sg)} (hxx : ∀ (σ : Sg) (x1 : Int32) (H : Heap) (locs : List Loc) (ls : Array Slot), kx σ x1 = some Rr → Gd b D cI cZ cO σ s.heap H locs → lv_has ls 3 [(1, .int x1)] → W p l e rmX2_fateful s m args below meth c H locs 0 0 (MQ below (QI b D cI cZ cO Rr) args s 0 0 (fun q => b ≤ q)) (F0 m 39 ls [])) : ∀ (fu : Nat) (σ : Sg) (x1 : Int32) (x2 : Int32) (H : Heap) (locs : List Loc) (ls : Array Slot), fX2_fateful_4 fu kx σ x1 x2 = some Rr → Gd b D cI cZ cO σ s.heap H locs → lv_has ls 3 [(0, .ref (b + 3)), (1, .int x1), (2, .int x2)] → W p l e rmX2_fateful s m args below meth c H locs 0 0 (MQ below (QI b D cI cZ cO Rr) args s 0 0 (fun q => b ≤ q)) (F0 m 4 ls []) := by
  intro fu
  induction fu with
  | zero => intro σ x1 x2 H locs ls hs; cases hs
  | succ fu ih =>
    intro σ x1 x2 H locs ls hs G hl
    exact wX2_fateful_4b C (fun σ x1 x2 H locs ls hs G hl => ih σ x1 x2 H locs ls hs G hl) hxx hs G hl
def fX2_fateful (σ : Sg) : Option (Int32 × Sg) :=
  fX2_fateful_4 FU (fun σ_7 x1_7 => some (x1_7, σ_7)) σ 0 0
set_option maxRecDepth 100000 in
set_option maxHeartbeats 4000000 in
theorem ctX2_fateful (l : Launch) {D : va_G} {cI cZ cO : ClassId} {b : Nat} {σ : Sg} {Rr : (Int32 × Sg)} (hs : fX2_fateful σ = some Rr) : MI l yX2_fateful cX2_fateful 3 (some .int) rmX2_fateful [.ref (b + 3)] b D cI cZ cO σ Rr := by
  unfold fX2_fateful at hs
  refine metI (by decide +kernel) (Nat.le_of_ble_eq_true rfl) (fun p e s m below meth c ls C G hl => ?_)
  have C : Cx p s m _ meth c cX2_fateful RX2 3 (some .int) D cI cZ cO := C
  have hx := C.1
  have hb := C.2.1
  have hl : lv_has ls 3 [(0, .ref (b + 3))] := hl
  refine lv_iconst (v := 0) hx hb dX2_fateful_0 (by decide) ?_
  refine lv_istore_n (lv' := [(1, .int 0), (0, .ref (b + 3))]) hx hb dX2_fateful_1 rfl hl (by decide) rfl (fun ls hl => ?_)
  refine lv_iconst (v := 0) hx hb dX2_fateful_2 (by decide) ?_
  refine lv_istore_n (lv' := [(2, .int 0), (1, .int 0), (0, .ref (b + 3))]) hx hb dX2_fateful_3 rfl hl (by decide) rfl (fun ls hl => ?_)
  refine wX2_fateful_4 C (fun σ_7 x1_7 H locs ls hs G hl => ?_) FU _ _ _ _ _ _ hs G (lv_sub hl [2, 1, 0] rfl)
  refine lv_iload_n hx hb dX2_fateful_39 rfl (lv_at hl 0 rfl) ?_
  exact retI C G hs dX2_fateful_40
-- X2_canGoUp
def rmX2_canGoUp : Room := { frames := 0, cells := 0, slots := 0, locals := 0 }
def fX2_canGoUp (σ : Sg) (x1 : Int32) : Option (Int32 × Sg) :=
  (if (((σ 11 4) >>> (x1 &&& 31)) &&& 1) = 0 then some (1, σ) else some (0, σ))
set_option maxRecDepth 100000 in
set_option maxHeartbeats 4000000 in
theorem ctX2_canGoUp (l : Launch) {D : va_G} {cI cZ cO : ClassId} {b : Nat} {σ : Sg} {x1 : Int32} {Rr : (Int32 × Sg)} (hs : fX2_canGoUp σ x1 = some Rr) : MI l yX2_canGoUp cX2_canGoUp 2 (some .boolean) rmX2_canGoUp [.ref (b + 3), .int x1] b D cI cZ cO σ Rr := by
  unfold fX2_canGoUp at hs
  refine metI (by decide +kernel) (Nat.le_of_ble_eq_true rfl) (fun p e s m below meth c ls C G hl => ?_)
  have C : Cx p s m _ meth c cX2_canGoUp RX2 2 (some .boolean) D cI cZ cO := C
  have hx := C.1
  have hb := C.2.1
  have hl : lv_has ls 2 [(0, .ref (b + 3)), (1, .int x1)] := hl
  refine lv_aload_n hx hb dX2_canGoUp_0 rfl (lv_at hl 0 rfl) ?_
  refine gf_X2_21 C G kd_3 (n' := 11) rfl dX2_canGoUp_1 ?_
  refine gf_X2_50 C G kd_11 dX2_canGoUp_4 ?_
  refine lv_iload_n hx hb dX2_canGoUp_7 rfl (lv_at hl 1 rfl) ?_
  refine lv_ishr hx hb dX2_canGoUp_8 ?_
  refine lv_iconst (v := 1) hx hb dX2_canGoUp_9 (by decide) ?_
  refine lv_iand hx hb dX2_canGoUp_10 ?_
  refine lv_if_ne (tgt := 18) hx hb dX2_canGoUp_11 (by decide) (fun c_1 => ?_) (fun c_1 => ?_)
  · replace hs := ifF c_1 hs
    refine lv_iconst (v := 0) hx hb dX2_canGoUp_18 (by decide) ?_
    exact retZ C G (by decide) hs dX2_canGoUp_19
  · replace hs := ifT c_1 hs
    refine lv_iconst (v := 1) hx hb dX2_canGoUp_14 (by decide) ?_
    refine lv_goto (tgt := 19) hx hb dX2_canGoUp_15 (by decide) ?_
    exact retZ C G (by decide) hs dX2_canGoUp_19
-- X2_canAnswer
def rmX2_canAnswer : Room := { frames := 1, cells := 0, slots := 0, locals := 21 }
def fX2_canAnswer_24 (σ : Sg) : Option (Int32 × Sg) :=
  some (0, σ)
set_option maxRecDepth 100000 in
set_option maxHeartbeats 4000000 in
theorem wX2_canAnswer_24 {p : Program} {l : Launch} {e : Env} {s : State} {m : MethodId} {args : Array Value} {below : List Frame} {meth : Method} {c : Code} {D : va_G} {cI cZ cO : ClassId} {b : Nat} (C : Cx p s m args meth c cX2_canAnswer RX2 3 (some .boolean) D cI cZ cO) {Rr : (Int32 × Sg)} {σ : Sg} {H : Heap} {locs : List Loc} {ls : Array Slot} (hs : fX2_canAnswer_24 σ = some Rr) (G : Gd b D cI cZ cO σ s.heap H locs) (hl : lv_has ls 3 []) : W p l e rmX2_canAnswer s m args below meth c H locs 0 0 (MQ below (QI b D cI cZ cO Rr) args s 0 0 (fun q => b ≤ q)) (F0 m 24 ls []) := by
  have hx := C.1
  have hb := C.2.1
  unfold fX2_canAnswer_24 at hs
  refine lv_iconst (v := 0) hx hb dX2_canAnswer_24 (by decide) ?_
  exact retZ C G (by decide) hs dX2_canAnswer_25
def fX2_canAnswer (σ : Sg) (x1 : Int32) (x2 : Int32) : Option (Int32 × Sg) :=
  (if inb x1 7 then (if (σ 12 x1.toNatClampNeg) ≤ 0 then fX2_canAnswer_24 σ else bi (fX2_canGoUp σ x2) (fun r_3 σ_3 => (if r_3 = 0 then fX2_canAnswer_24 σ_3 else some (1, σ_3)))) else none)
set_option maxRecDepth 100000 in
set_option maxHeartbeats 4000000 in
theorem ctX2_canAnswer (l : Launch) {D : va_G} {cI cZ cO : ClassId} {b : Nat} {σ : Sg} {x1 : Int32} {x2 : Int32} {Rr : (Int32 × Sg)} (hs : fX2_canAnswer σ x1 x2 = some Rr) : MI l yX2_canAnswer cX2_canAnswer 3 (some .boolean) rmX2_canAnswer [.ref (b + 3), .int x1, .int x2] b D cI cZ cO σ Rr := by
  unfold fX2_canAnswer at hs
  refine metI (by decide +kernel) (Nat.le_of_ble_eq_true rfl) (fun p e s m below meth c ls C G hl => ?_)
  have C : Cx p s m _ meth c cX2_canAnswer RX2 3 (some .boolean) D cI cZ cO := C
  have hx := C.1
  have hb := C.2.1
  have hl : lv_has ls 3 [(0, .ref (b + 3)), (1, .int x1), (2, .int x2)] := hl
  refine lv_aload_n hx hb dX2_canAnswer_0 rfl (lv_at hl 0 rfl) ?_
  refine gf_X2_21 C G kd_3 (n' := 11) rfl dX2_canAnswer_1 ?_
  refine gf_X2_46 C G kd_11 (n' := 12) rfl dX2_canAnswer_4 ?_
  refine lv_iload_n hx hb dX2_canAnswer_7 rfl (lv_at hl 1 rfl) ?_
  obtain ⟨g_1, hs⟩ := gdE hs
  refine m_iald C G kd_12 ln_12 g_1 dX2_canAnswer_8 ?_
  refine lv_if_le (tgt := 24) hx hb dX2_canAnswer_9 (by decide) (fun c_2 => ?_) (fun c_2 => ?_)
  · replace hs := ifT c_2 hs
    exact wX2_canAnswer_24 C   hs G (lv_sub hl [] rfl)
  · replace hs := ifF c_2 hs
    refine lv_aload_n hx hb dX2_canAnswer_12 rfl (lv_at hl 0 rfl) ?_
    refine lv_iload_n hx hb dX2_canAnswer_13 rfl (lv_at hl 2 rfl) ?_
    obtain ⟨r_3, σ_3, hc, hs⟩ := biE hs
    refine callVI (ar := 1) (As := [.int x2]) (rest := []) C G hl.1 (ctX2_canGoUp _  hc) ⟨wd_670, wd_671, wd_672, wd_71, wd_673⟩ (by decide +kernel) rfl ⟨rfl, rfl⟩ ⟨Nat.le_of_ble_eq_true rfl, Nat.le_of_ble_eq_true rfl⟩ (kd_lt kd_3 (by decide)) (ent_2 b cI cZ cO _ kd_3) rfl (Nat.le_of_ble_eq_true rfl) ⟨Nat.le_of_ble_eq_true rfl, Nat.le_of_ble_eq_true rfl⟩ dX2_canAnswer_14 rfl (fun H locs G => ?_)
    refine lv_if_eq (tgt := 24) hx hb dX2_canAnswer_17 (by decide) (fun c_4 => ?_) (fun c_4 => ?_)
    · replace hs := ifT c_4 hs
      exact wX2_canAnswer_24 C   hs G (lv_sub hl [] rfl)
    · replace hs := ifF c_4 hs
      refine lv_iconst (v := 1) hx hb dX2_canAnswer_20 (by decide) ?_
      refine lv_goto (tgt := 25) hx hb dX2_canAnswer_21 (by decide) ?_
      exact retZ C G (by decide) hs dX2_canAnswer_25
-- X2_bargainBy
def rmX2_bargainBy : Room := { frames := 2, cells := 0, slots := 0, locals := 57 }
def fX2_bargainBy (σ : Sg) (x1 : Int32) (x2 : Int32) : Option Sg :=
  gk 4 (dn (σ 3 0)) (fun n_1 => (if inb x1 7 then (if inb x1 7 then gk 4 (dn (σ 3 0)) (fun n_4 => bv (fX0_hold σ x2 (σ (n_1 + 1) x1.toNatClampNeg) (σ 14 x1.toNatClampNeg) (σ 11 0) (σ n_4 2)) (fun σ_5 => some σ_5)) else none) else none))
set_option maxRecDepth 100000 in
set_option maxHeartbeats 4000000 in
theorem ctX2_bargainBy (l : Launch) {D : va_G} {cI cZ cO : ClassId} {b : Nat} {σ : Sg} {x1 : Int32} {x2 : Int32} {Rr : Sg} (hs : fX2_bargainBy σ x1 x2 = some Rr) : MV l yX2_bargainBy cX2_bargainBy 3 rmX2_bargainBy [.ref (b + 3), .int x1, .int x2] b D cI cZ cO σ Rr := by
  unfold fX2_bargainBy at hs
  refine metV (by decide +kernel) (Nat.le_of_ble_eq_true rfl) (fun p e s m below meth c ls C G hl => ?_)
  have C : Cx p s m _ meth c cX2_bargainBy RX2 3 none D cI cZ cO := C
  have hx := C.1
  have hb := C.2.1
  have hl : lv_has ls 3 [(0, .ref (b + 3)), (1, .int x1), (2, .int x2)] := hl
  refine lv_aload_n hx hb dX2_bargainBy_0 rfl (lv_at hl 0 rfl) ?_
  refine gf_X2_28 C G kd_3 (n' := 16) rfl dX2_bargainBy_1 ?_
  refine lv_iload_n hx hb dX2_bargainBy_4 rfl (lv_at hl 2 rfl) ?_
  refine lv_aload_n hx hb dX2_bargainBy_5 rfl (lv_at hl 0 rfl) ?_
  obtain ⟨n_1, en_1, hk_1, hs⟩ := gkE hs
  refine gf_X2_12 C G kd_3 en_1 dX2_bargainBy_6 ?_
  refine gf_X2_57 C G hk_1 (n' := (n_1 + 1)) rfl dX2_bargainBy_9 ?_
  refine lv_iload_n hx hb dX2_bargainBy_12 rfl (lv_at hl 1 rfl) ?_
  obtain ⟨g_2, hs⟩ := gdE hs
  refine m_iald C G (kH1 hk_1) (lH1 hk_1) g_2 dX2_bargainBy_13 ?_
  refine lv_aload_n hx hb dX2_bargainBy_14 rfl (lv_at hl 0 rfl) ?_
  refine gf_X2_21 C G kd_3 (n' := 11) rfl dX2_bargainBy_15 ?_
  refine gf_X2_60 C G kd_11 (n' := 14) rfl dX2_bargainBy_18 ?_
  refine lv_iload_n hx hb dX2_bargainBy_21 rfl (lv_at hl 1 rfl) ?_
  obtain ⟨g_3, hs⟩ := gdE hs
  refine m_iald C G kd_14 ln_14 g_3 dX2_bargainBy_22 ?_
  refine lv_aload_n hx hb dX2_bargainBy_23 rfl (lv_at hl 0 rfl) ?_
  refine gf_X2_21 C G kd_3 (n' := 11) rfl dX2_bargainBy_24 ?_
  refine gf_X2_63 C G kd_11 dX2_bargainBy_27 ?_
  refine lv_aload_n hx hb dX2_bargainBy_30 rfl (lv_at hl 0 rfl) ?_
  obtain ⟨n_4, en_4, hk_4, hs⟩ := gkE hs
  refine gf_X2_12 C G kd_3 en_4 dX2_bargainBy_31 ?_
  refine gf_X2_66 C G hk_4 dX2_bargainBy_34 ?_
  obtain ⟨σ_5, hc, hs⟩ := bvE hs
  refine callVV (ar := 5) (As := [.int x2, .int (σ (n_1 + 1) x1.toNatClampNeg), .int (σ 14 x1.toNatClampNeg), .int (σ 11 0), .int (σ n_4 2)]) (rest := []) C G hl.1 (ctX0_hold _  hc) ⟨wd_606, wd_607, wd_608, wd_74, wd_609⟩ (by decide +kernel) rfl ⟨rfl, rfl⟩ ⟨Nat.le_of_ble_eq_true rfl, Nat.le_of_ble_eq_true rfl⟩ (kd_lt kd_16 (by decide)) (ent_0 b cI cZ cO _ kd_16) rfl (Nat.le_of_ble_eq_true rfl) ⟨Nat.le_of_ble_eq_true rfl, Nat.le_of_ble_eq_true rfl⟩ dX2_bargainBy_37 rfl (fun H locs G => ?_)
  exact retV C G hs dX2_bargainBy_40
-- X2_leftBy
def rmX2_leftBy : Room := { frames := 3, cells := 0, slots := 0, locals := 79 }
def fX2_leftBy (σ : Sg) (x1 : Int32) (x2 : Int32) : Option (Int32 × Sg) :=
  bv (fX2_bargainBy σ x1 x2) (fun σ_1 => some ((σ_1 16 0), σ_1))
set_option maxRecDepth 100000 in
set_option maxHeartbeats 4000000 in
theorem ctX2_leftBy (l : Launch) {D : va_G} {cI cZ cO : ClassId} {b : Nat} {σ : Sg} {x1 : Int32} {x2 : Int32} {Rr : (Int32 × Sg)} (hs : fX2_leftBy σ x1 x2 = some Rr) : MI l yX2_leftBy cX2_leftBy 3 (some .int) rmX2_leftBy [.ref (b + 3), .int x1, .int x2] b D cI cZ cO σ Rr := by
  unfold fX2_leftBy at hs
  refine metI (by decide +kernel) (Nat.le_of_ble_eq_true rfl) (fun p e s m below meth c ls C G hl => ?_)
  have C : Cx p s m _ meth c cX2_leftBy RX2 3 (some .int) D cI cZ cO := C
  have hx := C.1
  have hb := C.2.1
  have hl : lv_has ls 3 [(0, .ref (b + 3)), (1, .int x1), (2, .int x2)] := hl
  refine lv_aload_n hx hb dX2_leftBy_0 rfl (lv_at hl 0 rfl) ?_
  refine lv_iload_n hx hb dX2_leftBy_1 rfl (lv_at hl 1 rfl) ?_
  refine lv_iload_n hx hb dX2_leftBy_2 rfl (lv_at hl 2 rfl) ?_
  obtain ⟨σ_1, hc, hs⟩ := bvE hs
  refine callVV (ar := 2) (As := [.int x1, .int x2]) (rest := []) C G hl.1 (ctX2_bargainBy _  hc) ⟨wd_602, wd_603, wd_604, wd_71, wd_605⟩ (by decide +kernel) rfl ⟨rfl, rfl⟩ ⟨Nat.le_of_ble_eq_true rfl, Nat.le_of_ble_eq_true rfl⟩ (kd_lt kd_3 (by decide)) (ent_2 b cI cZ cO _ kd_3) rfl (Nat.le_of_ble_eq_true rfl) ⟨Nat.le_of_ble_eq_true rfl, Nat.le_of_ble_eq_true rfl⟩ dX2_leftBy_3 rfl (fun H locs G => ?_)
  refine lv_aload_n hx hb dX2_leftBy_6 rfl (lv_at hl 0 rfl) ?_
  refine gf_X2_28 C G kd_3 (n' := 16) rfl dX2_leftBy_7 ?_
  refine gf_X2_77 C G kd_16 dX2_leftBy_10 ?_
  exact retI C G hs dX2_leftBy_13
-- X2_foretell
def rmX2_foretell : Room := { frames := 0, cells := 0, slots := 0, locals := 0 }
def fX2_foretell (σ : Sg) (x1 : Int32) (x2 : Int32) : Option Sg :=
  (if inb x1 7 then lt (st σ 12 x1.toNatClampNeg x2) (fun σ_1 => lt (st σ_1 11 3 ((σ_1 11 3) ||| ((1 : Int32) <<< (x1 &&& 31)))) (fun σ_2 => some σ_2)) else none)
set_option maxRecDepth 100000 in
set_option maxHeartbeats 4000000 in
theorem ctX2_foretell (l : Launch) {D : va_G} {cI cZ cO : ClassId} {b : Nat} {σ : Sg} {x1 : Int32} {x2 : Int32} {Rr : Sg} (hs : fX2_foretell σ x1 x2 = some Rr) : MV l yX2_foretell cX2_foretell 3 rmX2_foretell [.ref (b + 3), .int x1, .int x2] b D cI cZ cO σ Rr := by
  unfold fX2_foretell at hs
  refine metV (by decide +kernel) (Nat.le_of_ble_eq_true rfl) (fun p e s m below meth c ls C G hl => ?_)
  have C : Cx p s m _ meth c cX2_foretell RX2 3 none D cI cZ cO := C
  have hx := C.1
  have hb := C.2.1
  have hl : lv_has ls 3 [(0, .ref (b + 3)), (1, .int x1), (2, .int x2)] := hl
  refine lv_aload_n hx hb dX2_foretell_0 rfl (lv_at hl 0 rfl) ?_
  refine gf_X2_21 C G kd_3 (n' := 11) rfl dX2_foretell_1 ?_
  refine gf_X2_46 C G kd_11 (n' := 12) rfl dX2_foretell_4 ?_
  refine lv_iload_n hx hb dX2_foretell_7 rfl (lv_at hl 1 rfl) ?_
  refine lv_iload_n hx hb dX2_foretell_8 rfl (lv_at hl 2 rfl) ?_
  obtain ⟨g_1, hs⟩ := gdE hs
  refine m_iast C G kd_12 ln_12 g_1 hs dX2_foretell_9 (fun σ_1 H locs hs G => ?_)
  refine lv_aload_n hx hb dX2_foretell_10 rfl (lv_at hl 0 rfl) ?_
  refine gf_X2_21 C G kd_3 (n' := 11) rfl dX2_foretell_11 ?_
  refine lv_dup hx hb dX2_foretell_14 rfl ?_
  refine gf_X2_43 C G kd_11 dX2_foretell_15 ?_
  refine lv_iconst (v := 1) hx hb dX2_foretell_18 (by decide) ?_
  refine lv_iload_n hx hb dX2_foretell_19 rfl (lv_at hl 1 rfl) ?_
  refine lv_ishl hx hb dX2_foretell_20 ?_
  refine lv_ior hx hb dX2_foretell_21 ?_
  refine pf_X2_43 C G kd_11 hs dX2_foretell_22 (fun σ_2 H locs hs G => ?_)
  exact retV C G hs dX2_foretell_25
