-- X12_yearOf
def rmX12_yearOf : Room := { frames := 2, cells := 0, slots := 0, locals := 48 }
def fX12_yearOf_2b (kh : Sg → Int32 → Int32 → Option Sg) (kx : Sg → Int32 → Option Sg) (σ : Sg) (x1 : Int32) (x2 : Int32) : Option Sg :=
  (if (σ 132 3) ≤ x2 then kx σ x1 else (if inb ((x1 + 12) + x2) 60 then bv (fX12_harms σ x1 x2 (σ 136 ((x1 + 12) + x2).toNatClampNeg)) (fun σ_3 => (if inb ((x1 + 12) + x2) 60 then lt (st σ_3 136 ((x1 + 12) + x2).toNatClampNeg 0) (fun σ_4 => lt (x2 + 1) (fun x2_5 => kh σ_4 x1 x2_5)) else none)) else none))
set_option maxRecDepth 100000 in
set_option maxHeartbeats 4000000 in
theorem wX12_yearOf_2b {p : Program} {l : Launch} {e : Env} {s : State} {m : MethodId} {args : Array Value} {below : List Frame} {meth : Method} {c : Code} {D : va_G} {cI cZ cO : ClassId} {b : Nat} (C : Cx p s m args meth c cX12_yearOf RX12 6 none D cI cZ cO) {Rr : Sg} {kh : Sg → Int32 → Int32 → Option Sg} {kx : Sg → Int32 → Option Sg} (hh : ∀ (σ : Sg) (x1 : Int32) (x2 : Int32) (H : Heap) (locs : List Loc) (ls : Array Slot), kh σ x1 x2 = some Rr → Gd b D cI cZ cO σ s.heap H locs → lv_has ls 6 [(0, .ref (b + 132)), (1, .int x1), (2, .int x2)] → W p l e rmX12_yearOf s m args below meth c H locs 0 0 (MQ below (QV b D cI cZ cO Rr) args s 0 0 (fun q => b ≤ q)) (F0 m 2 ls [])) (hxx : ∀ (σ : Sg) (x1 : Int32) (H : Heap) (locs : List Loc) (ls : Array Slot), kx σ x1 = some Rr → Gd b D cI cZ cO σ s.heap H locs → lv_has ls 6 [(0, .ref (b + 132)), (1, .int x1)] → W p l e rmX12_yearOf s m args below meth c H locs 0 0 (MQ below (QV b D cI cZ cO Rr) args s 0 0 (fun q => b ≤ q)) (F0 m 45 ls [])) {σ : Sg} {x1 : Int32} {x2 : Int32} {H : Heap} {locs : List Loc} {ls : Array Slot} (hs : fX12_yearOf_2b kh kx σ x1 x2 = some Rr) (G : Gd b D cI cZ cO σ s.heap H locs) (hl : lv_has ls 6 [(0, .ref (b + 132)), (1, .int x1), (2, .int x2)]) : W p l e rmX12_yearOf s m args below meth c H locs 0 0 (MQ below (QV b D cI cZ cO Rr) args s 0 0 (fun q => b ≤ q)) (F0 m 2 ls []) := by
  have hx := C.1
  have hb := C.2.1
  unfold fX12_yearOf_2b at hs
  refine lv_iload_n hx hb dX12_yearOf_2 rfl (lv_at hl 2 rfl) ?_
  refine lv_aload_n hx hb dX12_yearOf_3 rfl (lv_at hl 0 rfl) ?_
  refine gf_X12_72 C G kd_132 dX12_yearOf_4 ?_
  refine lv_icmp_ge (tgt := 45) hx hb dX12_yearOf_7 (by decide) (fun c_1 => ?_) (fun c_1 => ?_)
  · replace hs := ifT c_1 hs
    exact hxx _ _ _ _ _ hs G (lv_sub hl [0, 1] rfl)
  · replace hs := ifF c_1 hs
    refine lv_aload_n hx hb dX12_yearOf_10 rfl (lv_at hl 0 rfl) ?_
    refine lv_iload_n hx hb dX12_yearOf_11 rfl (lv_at hl 1 rfl) ?_
    refine lv_iload_n hx hb dX12_yearOf_12 rfl (lv_at hl 2 rfl) ?_
    refine lv_aload_n hx hb dX12_yearOf_13 rfl (lv_at hl 0 rfl) ?_
    refine gf_X12_19 C G kd_132 (n' := 136) rfl dX12_yearOf_14 ?_
    refine lv_iload_n hx hb dX12_yearOf_17 rfl (lv_at hl 1 rfl) ?_
    refine lv_bipush (v := 12) hx hb dX12_yearOf_18 (by decide) ?_
    refine lv_iadd hx hb dX12_yearOf_20 ?_
    refine lv_iload_n hx hb dX12_yearOf_21 rfl (lv_at hl 2 rfl) ?_
    refine lv_iadd hx hb dX12_yearOf_22 ?_
    obtain ⟨g_2, hs⟩ := gdE hs
    refine m_iald C G kd_136 ln_136 g_2 dX12_yearOf_23 ?_
    obtain ⟨σ_3, hc, hs⟩ := bvE hs
    refine callVV (ar := 3) (As := [.int x1, .int x2, .int (σ 136 ((x1 + 12) + x2).toNatClampNeg)]) (rest := []) C G hl.1 (ctX12_harms _  hc) ⟨wd_1057, wd_1059, wd_38, wd_81, wd_1060⟩ (by decide +kernel) rfl ⟨rfl, rfl⟩ ⟨Nat.le_of_ble_eq_true rfl, Nat.le_of_ble_eq_true rfl⟩ (kd_lt kd_132 (by decide)) (ent_12 b cI cZ cO _ kd_132) rfl (Nat.le_of_ble_eq_true rfl) ⟨Nat.le_of_ble_eq_true rfl, Nat.le_of_ble_eq_true rfl⟩ dX12_yearOf_24 rfl (fun H locs G => ?_)
    refine lv_aload_n hx hb dX12_yearOf_27 rfl (lv_at hl 0 rfl) ?_
    refine gf_X12_19 C G kd_132 (n' := 136) rfl dX12_yearOf_28 ?_
    refine lv_iload_n hx hb dX12_yearOf_31 rfl (lv_at hl 1 rfl) ?_
    refine lv_bipush (v := 12) hx hb dX12_yearOf_32 (by decide) ?_
    refine lv_iadd hx hb dX12_yearOf_34 ?_
    refine lv_iload_n hx hb dX12_yearOf_35 rfl (lv_at hl 2 rfl) ?_
    refine lv_iadd hx hb dX12_yearOf_36 ?_
    refine lv_iconst (v := 0) hx hb dX12_yearOf_37 (by decide) ?_
    obtain ⟨g_4, hs⟩ := gdE hs
    refine m_iast C G kd_136 ln_136 g_4 hs dX12_yearOf_38 (fun σ_4 H locs hs G => ?_)
    obtain ⟨x2_5, e_5, hs⟩ := ltE hs
    refine lv_iinc (v := x2_5) (lv' := [(2, .int x2_5), (0, .ref (b + 132)), (1, .int x1)]) hx hb dX12_yearOf_39 hl (k := 2) rfl (by rw [e_5]; rfl) (by decide) rfl (fun ls hl => ?_)
    refine lv_goto (tgt := 2) hx hb dX12_yearOf_42 (by decide) ?_
    exact hh _ _ _ _ _ _ hs G (lv_sub hl [1, 2, 0] rfl)
def fX12_yearOf_2 : Nat → (Sg → Int32 → Option Sg) → Sg → Int32 → Int32 → Option Sg
  | 0, _, _, _, _ => none
  | fu + 1, kx, σ, x1, x2 => fX12_yearOf_2b (fX12_yearOf_2 fu kx) kx σ x1 x2
theorem fX12_yearOf_2_s (fu : Nat) (kx : Sg → Int32 → Option Sg) (σ : Sg) (x1 : Int32) (x2 : Int32) : fX12_yearOf_2 (fu + 1) kx σ x1 x2 = fX12_yearOf_2b (fX12_yearOf_2 fu kx) kx σ x1 x2 := by rw [fX12_yearOf_2]
theorem wX12_yearOf_2 {p : Program} {l : Launch} {e : Env} {s : State} {m : MethodId} {args : Array Value} {below : List Frame} {meth : Method} {c : Code} {D : va_G} {cI cZ cO : ClassId} {b : Nat} (C : Cx p s m args meth c cX12_yearOf RX12 6 none D cI cZ cO) {Rr : Sg} {kx : Sg → Int32 → Option Sg} (hxx : ∀ (σ : Sg) (x1 : Int32) (H : Heap) (locs : List Loc) (ls : Array Slot), kx σ x1 = some Rr → Gd b D cI cZ cO σ s.heap H locs → lv_has ls 6 [(0, .ref (b + 132)), (1, .int x1)] → W p l e rmX12_yearOf s m args below meth c H locs 0 0 (MQ below (QV b D cI cZ cO Rr) args s 0 0 (fun q => b ≤ q)) (F0 m 45 ls [])) : ∀ (fu : Nat) (σ : Sg) (x1 : Int32) (x2 : Int32) (H : Heap) (locs : List Loc) (ls : Array Slot), fX12_yearOf_2 fu kx σ x1 x2 = some Rr → Gd b D cI cZ cO σ s.heap H locs → lv_has ls 6 [(0, .ref (b + 132)), (1, .int x1), (2, .int x2)] → W p l e rmX12_yearOf s m args below meth c H locs 0 0 (MQ below (QV b D cI cZ cO Rr) args s 0 0 (fun q => b ≤ q)) (F0 m 2 ls []) := by
  intro fu
  induction fu with
  | zero => intro σ x1 x2 H locs ls hs; cases hs
  | succ fu ih =>
    intro σ x1 x2 H locs ls hs G hl
    exact wX12_yearOf_2b C (fun σ x1 x2 H locs ls hs G hl => ih σ x1 x2 H locs ls hs G hl) hxx hs G hl
def fX12_yearOf_113 (kh : Sg → Int32 → Int32 → Int32 → Int32 → Int32 → Option Sg) (kx : Sg → Int32 → Int32 → Int32 → Option Sg) (σ : Sg) (x1 : Int32) (x2 : Int32) (x3 : Int32) (x4 : Int32) (x5 : Int32) (y0 : Int32) (y1 : Int32) (y2 : Int32) : Option Sg :=
  bv (fX12_harms σ y2 y1 y0) (fun σ_14 => lt (x5 + 1) (fun x5_15 => kh σ_14 x1 x2 x3 x4 x5_15))
set_option maxRecDepth 100000 in
set_option maxHeartbeats 4000000 in
theorem wX12_yearOf_113 {p : Program} {l : Launch} {e : Env} {s : State} {m : MethodId} {args : Array Value} {below : List Frame} {meth : Method} {c : Code} {D : va_G} {cI cZ cO : ClassId} {b : Nat} (C : Cx p s m args meth c cX12_yearOf RX12 6 none D cI cZ cO) {Rr : Sg} {kh : Sg → Int32 → Int32 → Int32 → Int32 → Int32 → Option Sg} {kx : Sg → Int32 → Int32 → Int32 → Option Sg} (hh : ∀ (σ : Sg) (x1 : Int32) (x2 : Int32) (x3 : Int32) (x4 : Int32) (x5 : Int32) (H : Heap) (locs : List Loc) (ls : Array Slot), kh σ x1 x2 x3 x4 x5 = some Rr → Gd b D cI cZ cO σ s.heap H locs → lv_has ls 6 [(0, .ref (b + 132)), (1, .int x1), (2, .int x2), (3, .int x3), (4, .int x4), (5, .int x5)] → W p l e rmX12_yearOf s m args below meth c H locs 0 0 (MQ below (QV b D cI cZ cO Rr) args s 0 0 (fun q => b ≤ q)) (F0 m 80 ls [])) (hxx : ∀ (σ : Sg) (x1 : Int32) (x2 : Int32) (x4 : Int32) (H : Heap) (locs : List Loc) (ls : Array Slot), kx σ x1 x2 x4 = some Rr → Gd b D cI cZ cO σ s.heap H locs → lv_has ls 6 [(0, .ref (b + 132)), (1, .int x1), (2, .int x2), (4, .int x4)] → W p l e rmX12_yearOf s m args below meth c H locs 0 0 (MQ below (QV b D cI cZ cO Rr) args s 0 0 (fun q => b ≤ q)) (F0 m 122 ls [])) {σ : Sg} {x1 : Int32} {x2 : Int32} {x3 : Int32} {x4 : Int32} {x5 : Int32} {y0 : Int32} {y1 : Int32} {y2 : Int32} {H : Heap} {locs : List Loc} {ls : Array Slot} (hs : fX12_yearOf_113 kh kx σ x1 x2 x3 x4 x5 y0 y1 y2 = some Rr) (G : Gd b D cI cZ cO σ s.heap H locs) (hl : lv_has ls 6 [(0, .ref (b + 132)), (1, .int x1), (2, .int x2), (3, .int x3), (4, .int x4), (5, .int x5)]) : W p l e rmX12_yearOf s m args below meth c H locs 0 0 (MQ below (QV b D cI cZ cO Rr) args s 0 0 (fun q => b ≤ q)) (F0 m 113 ls [.int y0, .int y1, .int y2, .ref (b + 132)]) := by
  have hx := C.1
  have hb := C.2.1
  unfold fX12_yearOf_113 at hs
  obtain ⟨σ_14, hc, hs⟩ := bvE hs
  refine callVV (ar := 3) (As := [.int y2, .int y1, .int y0]) (rest := []) C G hl.1 (ctX12_harms _  hc) ⟨wd_1057, wd_1059, wd_38, wd_81, wd_1060⟩ (by decide +kernel) rfl ⟨rfl, rfl⟩ ⟨Nat.le_of_ble_eq_true rfl, Nat.le_of_ble_eq_true rfl⟩ (kd_lt kd_132 (by decide)) (ent_12 b cI cZ cO _ kd_132) rfl (Nat.le_of_ble_eq_true rfl) ⟨Nat.le_of_ble_eq_true rfl, Nat.le_of_ble_eq_true rfl⟩ dX12_yearOf_113 rfl (fun H locs G => ?_)
  obtain ⟨x5_15, e_15, hs⟩ := ltE hs
  refine lv_iinc (v := x5_15) (lv' := [(5, .int x5_15), (0, .ref (b + 132)), (1, .int x1), (2, .int x2), (3, .int x3), (4, .int x4)]) hx hb dX12_yearOf_116 hl (k := 5) rfl (by rw [e_15]; rfl) (by decide) rfl (fun ls hl => ?_)
  refine lv_goto (tgt := 80) hx hb dX12_yearOf_119 (by decide) ?_
  exact hh _ _ _ _ _ _ _ _ _ hs G (lv_sub hl [1, 2, 3, 4, 5, 0] rfl)
def fX12_yearOf_80b (kh : Sg → Int32 → Int32 → Int32 → Int32 → Int32 → Option Sg) (kx : Sg → Int32 → Int32 → Int32 → Option Sg) (σ : Sg) (x1 : Int32) (x2 : Int32) (x3 : Int32) (x4 : Int32) (x5 : Int32) : Option Sg :=
  (if (σ 132 3) ≤ x5 then kx σ x1 x2 x4 else bi (fX12_has σ x3 x5) (fun r_12 σ_12 => (if r_12 = 0 then fX12_yearOf_113 kh kx σ_12 x1 x2 x3 x4 x5 0 x5 x1 else bi (fX12_ones σ_12 x3) (fun r_16 σ_16 => (if ¬ r_16 = 0 then fX12_yearOf_113 kh kx σ_16 x1 x2 x3 x4 x5 (x4 / r_16) x5 x1 else none)))))
set_option maxRecDepth 100000 in
set_option maxHeartbeats 4000000 in
theorem wX12_yearOf_80b {p : Program} {l : Launch} {e : Env} {s : State} {m : MethodId} {args : Array Value} {below : List Frame} {meth : Method} {c : Code} {D : va_G} {cI cZ cO : ClassId} {b : Nat} (C : Cx p s m args meth c cX12_yearOf RX12 6 none D cI cZ cO) {Rr : Sg} {kh : Sg → Int32 → Int32 → Int32 → Int32 → Int32 → Option Sg} {kx : Sg → Int32 → Int32 → Int32 → Option Sg} (hh : ∀ (σ : Sg) (x1 : Int32) (x2 : Int32) (x3 : Int32) (x4 : Int32) (x5 : Int32) (H : Heap) (locs : List Loc) (ls : Array Slot), kh σ x1 x2 x3 x4 x5 = some Rr → Gd b D cI cZ cO σ s.heap H locs → lv_has ls 6 [(0, .ref (b + 132)), (1, .int x1), (2, .int x2), (3, .int x3), (4, .int x4), (5, .int x5)] → W p l e rmX12_yearOf s m args below meth c H locs 0 0 (MQ below (QV b D cI cZ cO Rr) args s 0 0 (fun q => b ≤ q)) (F0 m 80 ls [])) (hxx : ∀ (σ : Sg) (x1 : Int32) (x2 : Int32) (x4 : Int32) (H : Heap) (locs : List Loc) (ls : Array Slot), kx σ x1 x2 x4 = some Rr → Gd b D cI cZ cO σ s.heap H locs → lv_has ls 6 [(0, .ref (b + 132)), (1, .int x1), (2, .int x2), (4, .int x4)] → W p l e rmX12_yearOf s m args below meth c H locs 0 0 (MQ below (QV b D cI cZ cO Rr) args s 0 0 (fun q => b ≤ q)) (F0 m 122 ls [])) {σ : Sg} {x1 : Int32} {x2 : Int32} {x3 : Int32} {x4 : Int32} {x5 : Int32} {H : Heap} {locs : List Loc} {ls : Array Slot} (hs : fX12_yearOf_80b kh kx σ x1 x2 x3 x4 x5 = some Rr) (G : Gd b D cI cZ cO σ s.heap H locs) (hl : lv_has ls 6 [(0, .ref (b + 132)), (1, .int x1), (2, .int x2), (3, .int x3), (4, .int x4), (5, .int x5)]) : W p l e rmX12_yearOf s m args below meth c H locs 0 0 (MQ below (QV b D cI cZ cO Rr) args s 0 0 (fun q => b ≤ q)) (F0 m 80 ls []) := by
  have hx := C.1
  have hb := C.2.1
  unfold fX12_yearOf_80b at hs
  refine lv_iload hx hb dX12_yearOf_80 (lv_at hl 5 rfl) ?_
  refine lv_aload_n hx hb dX12_yearOf_82 rfl (lv_at hl 0 rfl) ?_
  refine gf_X12_72 C G kd_132 dX12_yearOf_83 ?_
  refine lv_icmp_ge (tgt := 122) hx hb dX12_yearOf_86 (by decide) (fun c_11 => ?_) (fun c_11 => ?_)
  · replace hs := ifT c_11 hs
    exact hxx _ _ _ _ _ _ _ hs G (lv_sub hl [0, 1, 2, 4] rfl)
  · replace hs := ifF c_11 hs
    refine lv_aload_n hx hb dX12_yearOf_89 rfl (lv_at hl 0 rfl) ?_
    refine lv_iload_n hx hb dX12_yearOf_90 rfl (lv_at hl 1 rfl) ?_
    refine lv_iload hx hb dX12_yearOf_91 (lv_at hl 5 rfl) ?_
    refine lv_iload_n hx hb dX12_yearOf_93 rfl (lv_at hl 3 rfl) ?_
    refine lv_iload hx hb dX12_yearOf_94 (lv_at hl 5 rfl) ?_
    obtain ⟨r_12, σ_12, hc, hs⟩ := biE hs
    refine callSI (ar := 2) (As := [.int x3, .int x5]) (rest := [.int x5, .int x1, .ref (b + 132)]) C G hl.1 (ctX12_has _  hc) ⟨wd_1069, wd_1070, wd_81, wd_1071⟩ (by decide +kernel) rfl ⟨rfl, rfl⟩ ⟨Nat.le_of_ble_eq_true rfl, Nat.le_of_ble_eq_true rfl⟩ (Nat.le_of_ble_eq_true rfl) ⟨Nat.le_of_ble_eq_true rfl, Nat.le_of_ble_eq_true rfl⟩ dX12_yearOf_96 rfl (fun H locs G => ?_)
    refine lv_if_eq (tgt := 112) hx hb dX12_yearOf_99 (by decide) (fun c_13 => ?_) (fun c_13 => ?_)
    · replace hs := ifT c_13 hs
      refine lv_iconst (v := 0) hx hb dX12_yearOf_112 (by decide) ?_
      exact wX12_yearOf_113 C  hh hxx hs G (lv_sub hl [0, 1, 2, 3, 4, 5] rfl)
    · replace hs := ifF c_13 hs
      refine lv_iload hx hb dX12_yearOf_102 (lv_at hl 4 rfl) ?_
      refine lv_iload_n hx hb dX12_yearOf_104 rfl (lv_at hl 3 rfl) ?_
      obtain ⟨r_16, σ_16, hc, hs⟩ := biE hs
      refine callSI (ar := 1) (As := [.int x3]) (rest := [.int x4, .int x5, .int x1, .ref (b + 132)]) C G hl.1 (ctX12_ones _  hc) ⟨wd_1072, wd_1073, wd_81, wd_1074⟩ (by decide +kernel) rfl ⟨rfl, rfl⟩ ⟨Nat.le_of_ble_eq_true rfl, Nat.le_of_ble_eq_true rfl⟩ (Nat.le_of_ble_eq_true rfl) ⟨Nat.le_of_ble_eq_true rfl, Nat.le_of_ble_eq_true rfl⟩ dX12_yearOf_105 rfl (fun H locs G => ?_)
      obtain ⟨g_17, hs⟩ := gdE hs
      refine lv_idiv hx hb dX12_yearOf_108 g_17 ?_
      refine lv_goto (tgt := 113) hx hb dX12_yearOf_109 (by decide) ?_
      exact wX12_yearOf_113 C  hh hxx hs G (lv_sub hl [0, 1, 2, 3, 4, 5] rfl)
def fX12_yearOf_80 : Nat → (Sg → Int32 → Int32 → Int32 → Option Sg) → Sg → Int32 → Int32 → Int32 → Int32 → Int32 → Option Sg
  | 0, _, _, _, _, _, _, _ => none
  | fu + 1, kx, σ, x1, x2, x3, x4, x5 => fX12_yearOf_80b (fX12_yearOf_80 fu kx) kx σ x1 x2 x3 x4 x5
theorem fX12_yearOf_80_s (fu : Nat) (kx : Sg → Int32 → Int32 → Int32 → Option Sg) (σ : Sg) (x1 : Int32) (x2 : Int32) (x3 : Int32) (x4 : Int32) (x5 : Int32) : fX12_yearOf_80 (fu + 1) kx σ x1 x2 x3 x4 x5 = fX12_yearOf_80b (fX12_yearOf_80 fu kx) kx σ x1 x2 x3 x4 x5 := by rw [fX12_yearOf_80]
theorem wX12_yearOf_80 {p : Program} {l : Launch} {e : Env} {s : State} {m : MethodId} {args : Array Value} {below : List Frame} {meth : Method} {c : Code} {D : va_G} {cI cZ cO : ClassId} {b : Nat} (C : Cx p s m args meth c cX12_yearOf RX12 6 none D cI cZ cO) {Rr : Sg} {kx : Sg → Int32 → Int32 → Int32 → Option Sg} (hxx : ∀ (σ : Sg) (x1 : Int32) (x2 : Int32) (x4 : Int32) (H : Heap) (locs : List Loc) (ls : Array Slot), kx σ x1 x2 x4 = some Rr → Gd b D cI cZ cO σ s.heap H locs → lv_has ls 6 [(0, .ref (b + 132)), (1, .int x1), (2, .int x2), (4, .int x4)] → W p l e rmX12_yearOf s m args below meth c H locs 0 0 (MQ below (QV b D cI cZ cO Rr) args s 0 0 (fun q => b ≤ q)) (F0 m 122 ls [])) : ∀ (fu : Nat) (σ : Sg) (x1 : Int32) (x2 : Int32) (x3 : Int32) (x4 : Int32) (x5 : Int32) (H : Heap) (locs : List Loc) (ls : Array Slot), fX12_yearOf_80 fu kx σ x1 x2 x3 x4 x5 = some Rr → Gd b D cI cZ cO σ s.heap H locs → lv_has ls 6 [(0, .ref (b + 132)), (1, .int x1), (2, .int x2), (3, .int x3), (4, .int x4), (5, .int x5)] → W p l e rmX12_yearOf s m args below meth c H locs 0 0 (MQ below (QV b D cI cZ cO Rr) args s 0 0 (fun q => b ≤ q)) (F0 m 80 ls []) := by
  intro fu
  induction fu with
  | zero => intro σ x1 x2 x3 x4 x5 H locs ls hs; cases hs
  | succ fu ih =>
    intro σ x1 x2 x3 x4 x5 H locs ls hs G hl
    exact wX12_yearOf_80b C (fun σ x1 x2 x3 x4 x5 H locs ls hs G hl => ih σ x1 x2 x3 x4 x5 H locs ls hs G hl) hxx hs G hl
def fX12_yearOf_47b (kh : Sg → Int32 → Int32 → Option Sg) (kx : Sg → Int32 → Option Sg) (σ : Sg) (x1 : Int32) (x2 : Int32) : Option Sg :=
  (if (σ 132 2) ≤ x2 then kx σ x1 else bi (fX12_ofVillage σ x2) (fun r_8 σ_8 => (if inb (x1 + 2) 60 then bi (fX12_takes σ_8 x1 x2 (σ_8 136 (x1 + 2).toNatClampNeg)) (fun r_10 σ_10 => fX12_yearOf_80 FU (fun σ_18 x1_18 x2_18 x4_18 => (if inb (x1_18 + 2) 60 then (if inb (x1_18 + 2) 60 then lt (st σ_18 136 (x1_18 + 2).toNatClampNeg ((σ_18 136 (x1_18 + 2).toNatClampNeg) - x4_18)) (fun σ_20 => lt (x2_18 + 1) (fun x2_21 => kh σ_20 x1_18 x2_21)) else none) else none)) σ_10 x1 x2 r_8 r_10 0) else none)))
set_option maxRecDepth 100000 in
set_option maxHeartbeats 4000000 in
theorem wX12_yearOf_47b {p : Program} {l : Launch} {e : Env} {s : State} {m : MethodId} {args : Array Value} {below : List Frame} {meth : Method} {c : Code} {D : va_G} {cI cZ cO : ClassId} {b : Nat} (C : Cx p s m args meth c cX12_yearOf RX12 6 none D cI cZ cO) {Rr : Sg} {kh : Sg → Int32 → Int32 → Option Sg} {kx : Sg → Int32 → Option Sg} (hh : ∀ (σ : Sg) (x1 : Int32) (x2 : Int32) (H : Heap) (locs : List Loc) (ls : Array Slot), kh σ x1 x2 = some Rr → Gd b D cI cZ cO σ s.heap H locs → lv_has ls 6 [(0, .ref (b + 132)), (1, .int x1), (2, .int x2)] → W p l e rmX12_yearOf s m args below meth c H locs 0 0 (MQ below (QV b D cI cZ cO Rr) args s 0 0 (fun q => b ≤ q)) (F0 m 47 ls [])) (hxx : ∀ (σ : Sg) (x1 : Int32) (H : Heap) (locs : List Loc) (ls : Array Slot), kx σ x1 = some Rr → Gd b D cI cZ cO σ s.heap H locs → lv_has ls 6 [(0, .ref (b + 132)), (1, .int x1)] → W p l e rmX12_yearOf s m args below meth c H locs 0 0 (MQ below (QV b D cI cZ cO Rr) args s 0 0 (fun q => b ≤ q)) (F0 m 141 ls [])) {σ : Sg} {x1 : Int32} {x2 : Int32} {H : Heap} {locs : List Loc} {ls : Array Slot} (hs : fX12_yearOf_47b kh kx σ x1 x2 = some Rr) (G : Gd b D cI cZ cO σ s.heap H locs) (hl : lv_has ls 6 [(0, .ref (b + 132)), (1, .int x1), (2, .int x2)]) : W p l e rmX12_yearOf s m args below meth c H locs 0 0 (MQ below (QV b D cI cZ cO Rr) args s 0 0 (fun q => b ≤ q)) (F0 m 47 ls []) := by
  have hx := C.1
  have hb := C.2.1
  unfold fX12_yearOf_47b at hs
  refine lv_iload_n hx hb dX12_yearOf_47 rfl (lv_at hl 2 rfl) ?_
  refine lv_aload_n hx hb dX12_yearOf_48 rfl (lv_at hl 0 rfl) ?_
  refine gf_X12_79 C G kd_132 dX12_yearOf_49 ?_
  refine lv_icmp_ge (tgt := 141) hx hb dX12_yearOf_52 (by decide) (fun c_7 => ?_) (fun c_7 => ?_)
  · replace hs := ifT c_7 hs
    exact hxx _ _ _ _ _ hs G (lv_sub hl [0, 1] rfl)
  · replace hs := ifF c_7 hs
    refine lv_aload_n hx hb dX12_yearOf_55 rfl (lv_at hl 0 rfl) ?_
    refine lv_iload_n hx hb dX12_yearOf_56 rfl (lv_at hl 2 rfl) ?_
    obtain ⟨r_8, σ_8, hc, hs⟩ := biE hs
    refine callVI (ar := 1) (As := [.int x2]) (rest := []) C G hl.1 (ctX12_ofVillage _  hc) ⟨wd_1061, wd_1063, wd_39, wd_81, wd_1064⟩ (by decide +kernel) rfl ⟨rfl, rfl⟩ ⟨Nat.le_of_ble_eq_true rfl, Nat.le_of_ble_eq_true rfl⟩ (kd_lt kd_132 (by decide)) (ent_12 b cI cZ cO _ kd_132) rfl (Nat.le_of_ble_eq_true rfl) ⟨Nat.le_of_ble_eq_true rfl, Nat.le_of_ble_eq_true rfl⟩ dX12_yearOf_57 rfl (fun H locs G => ?_)
    refine lv_istore_n (lv' := [(3, .int r_8), (0, .ref (b + 132)), (1, .int x1), (2, .int x2)]) hx hb dX12_yearOf_60 rfl hl (by decide) rfl (fun ls hl => ?_)
    refine lv_aload_n hx hb dX12_yearOf_61 rfl (lv_at hl 1 rfl) ?_
    refine lv_iload_n hx hb dX12_yearOf_62 rfl (lv_at hl 2 rfl) ?_
    refine lv_iload_n hx hb dX12_yearOf_63 rfl (lv_at hl 3 rfl) ?_
    refine lv_aload_n hx hb dX12_yearOf_64 rfl (lv_at hl 1 rfl) ?_
    refine gf_X12_19 C G kd_132 (n' := 136) rfl dX12_yearOf_65 ?_
    refine lv_iload_n hx hb dX12_yearOf_68 rfl (lv_at hl 2 rfl) ?_
    refine lv_iconst (v := 2) hx hb dX12_yearOf_69 (by decide) ?_
    refine lv_iadd hx hb dX12_yearOf_70 ?_
    obtain ⟨g_9, hs⟩ := gdE hs
    refine m_iald C G kd_136 ln_136 g_9 dX12_yearOf_71 ?_
    obtain ⟨r_10, σ_10, hc, hs⟩ := biE hs
    refine callVI (ar := 3) (As := [.int x1, .int x2, .int (σ_8 136 (x1 + 2).toNatClampNeg)]) (rest := []) C G hl.1 (ctX12_takes _  hc) ⟨wd_1065, wd_1067, wd_40, wd_81, wd_1068⟩ (by decide +kernel) rfl ⟨rfl, rfl⟩ ⟨Nat.le_of_ble_eq_true rfl, Nat.le_of_ble_eq_true rfl⟩ (kd_lt kd_132 (by decide)) (ent_12 b cI cZ cO _ kd_132) rfl (Nat.le_of_ble_eq_true rfl) ⟨Nat.le_of_ble_eq_true rfl, Nat.le_of_ble_eq_true rfl⟩ dX12_yearOf_72 rfl (fun H locs G => ?_)
    refine lv_istore (lv' := [(4, .int r_10), (3, .int r_8), (0, .ref (b + 132)), (1, .int x1), (2, .int x2)]) hx hb dX12_yearOf_75 hl (by decide) rfl (fun ls hl => ?_)
    refine lv_iconst (v := 0) hx hb dX12_yearOf_77 (by decide) ?_
    refine lv_istore (lv' := [(5, .int 0), (4, .int r_10), (3, .int r_8), (0, .ref (b + 132)), (1, .int x1), (2, .int x2)]) hx hb dX12_yearOf_78 hl (by decide) rfl (fun ls hl => ?_)
    refine wX12_yearOf_80 C (fun σ_18 x1_18 x2_18 x4_18 H locs ls hs G hl => ?_) FU _ _ _ _ _ _ _ _ _ hs G (lv_sub hl [3, 4, 5, 2, 1, 0] rfl)
    refine lv_aload_n hx hb dX12_yearOf_122 rfl (lv_at hl 0 rfl) ?_
    refine gf_X12_19 C G kd_132 (n' := 136) rfl dX12_yearOf_123 ?_
    refine lv_iload_n hx hb dX12_yearOf_126 rfl (lv_at hl 1 rfl) ?_
    refine lv_iconst (v := 2) hx hb dX12_yearOf_127 (by decide) ?_
    refine lv_iadd hx hb dX12_yearOf_128 ?_
    refine lv_dup2_11 hx hb dX12_yearOf_129 rfl rfl ?_
    obtain ⟨g_19, hs⟩ := gdE hs
    refine m_iald C G kd_136 ln_136 g_19 dX12_yearOf_130 ?_
    refine lv_iload hx hb dX12_yearOf_131 (lv_at hl 3 rfl) ?_
    refine lv_isub hx hb dX12_yearOf_133 ?_
    obtain ⟨g_20, hs⟩ := gdE hs
    refine m_iast C G kd_136 ln_136 g_20 hs dX12_yearOf_134 (fun σ_20 H locs hs G => ?_)
    obtain ⟨x2_21, e_21, hs⟩ := ltE hs
    refine lv_iinc (v := x2_21) (lv' := [(2, .int x2_21), (0, .ref (b + 132)), (1, .int x1_18), (4, .int x4_18)]) hx hb dX12_yearOf_135 hl (k := 2) rfl (by rw [e_21]; rfl) (by decide) rfl (fun ls hl => ?_)
    refine lv_goto (tgt := 47) hx hb dX12_yearOf_138 (by decide) ?_
    exact hh _ _ _ _ _ _ hs G (lv_sub hl [1, 2, 0] rfl)
def fX12_yearOf_47 : Nat → (Sg → Int32 → Option Sg) → Sg → Int32 → Int32 → Option Sg
  | 0, _, _, _, _ => none
  | fu + 1, kx, σ, x1, x2 => fX12_yearOf_47b (fX12_yearOf_47 fu kx) kx σ x1 x2
theorem fX12_yearOf_47_s (fu : Nat) (kx : Sg → Int32 → Option Sg) (σ : Sg) (x1 : Int32) (x2 : Int32) : fX12_yearOf_47 (fu + 1) kx σ x1 x2 = fX12_yearOf_47b (fX12_yearOf_47 fu kx) kx σ x1 x2 := by rw [fX12_yearOf_47]
theorem wX12_yearOf_47 {p : Program} {l : Launch} {e : Env} {s : State} {m : MethodId} {args : Array Value} {below : List Frame} {meth : Method} {c : Code} {D : va_G} {cI cZ cO : ClassId} {b : Nat} (C : Cx p s m args meth c cX12_yearOf RX12 6 none D cI cZ cO) {Rr : Sg} {kx : Sg → Int32 → Option Sg} (hxx : ∀ (σ : Sg) (x1 : Int32) (H : Heap) (locs : List Loc) (ls : Array Slot), kx σ x1 = some Rr → Gd b D cI cZ cO σ s.heap H locs → lv_has ls 6 [(0, .ref (b + 132)), (1, .int x1)] → W p l e rmX12_yearOf s m args below meth c H locs 0 0 (MQ below (QV b D cI cZ cO Rr) args s 0 0 (fun q => b ≤ q)) (F0 m 141 ls [])) : ∀ (fu : Nat) (σ : Sg) (x1 : Int32) (x2 : Int32) (H : Heap) (locs : List Loc) (ls : Array Slot), fX12_yearOf_47 fu kx σ x1 x2 = some Rr → Gd b D cI cZ cO σ s.heap H locs → lv_has ls 6 [(0, .ref (b + 132)), (1, .int x1), (2, .int x2)] → W p l e rmX12_yearOf s m args below meth c H locs 0 0 (MQ below (QV b D cI cZ cO Rr) args s 0 0 (fun q => b ≤ q)) (F0 m 47 ls []) := by
  intro fu
  induction fu with
  | zero => intro σ x1 x2 H locs ls hs; cases hs
  | succ fu ih =>
    intro σ x1 x2 H locs ls hs G hl
    exact wX12_yearOf_47b C (fun σ x1 x2 H locs ls hs G hl => ih σ x1 x2 H locs ls hs G hl) hxx hs G hl
def fX12_yearOf (σ : Sg) (x1 : Int32) : Option Sg :=
  fX12_yearOf_2 FU (fun σ_6 x1_6 => fX12_yearOf_47 FU (fun σ_22 x1_22 => (if inb (x1_22 + 0) 60 then lt (st σ_22 136 (x1_22 + 0).toNatClampNeg (σ_22 132 0)) (fun σ_23 => (if inb (x1_22 + 1) 60 then (if inb (x1_22 + 1) 60 then lt (st σ_23 136 (x1_22 + 1).toNatClampNeg ((σ_23 136 (x1_22 + 1).toNatClampNeg) + 1)) (fun σ_25 => (if inb (x1_22 + 3) 60 then lt (st σ_25 136 (x1_22 + 3).toNatClampNeg 0) (fun σ_26 => (if inb (x1_22 + 4) 60 then lt (st σ_26 136 (x1_22 + 4).toNatClampNeg 0) (fun σ_27 => some σ_27) else none)) else none)) else none) else none)) else none)) σ_6 x1_6 0) σ x1 0
set_option maxRecDepth 100000 in
set_option maxHeartbeats 4000000 in
theorem ctX12_yearOf (l : Launch) {D : va_G} {cI cZ cO : ClassId} {b : Nat} {σ : Sg} {x1 : Int32} {Rr : Sg} (hs : fX12_yearOf σ x1 = some Rr) : MV l yX12_yearOf cX12_yearOf 6 rmX12_yearOf [.ref (b + 132), .int x1] b D cI cZ cO σ Rr := by
  unfold fX12_yearOf at hs
  refine metV (by decide +kernel) (Nat.le_of_ble_eq_true rfl) (fun p e s m below meth c ls C G hl => ?_)
  have C : Cx p s m _ meth c cX12_yearOf RX12 6 none D cI cZ cO := C
  have hx := C.1
  have hb := C.2.1
  have hl : lv_has ls 6 [(0, .ref (b + 132)), (1, .int x1)] := hl
  refine lv_iconst (v := 0) hx hb dX12_yearOf_0 (by decide) ?_
  refine lv_istore_n (lv' := [(2, .int 0), (0, .ref (b + 132)), (1, .int x1)]) hx hb dX12_yearOf_1 rfl hl (by decide) rfl (fun ls hl => ?_)
  refine wX12_yearOf_2 C (fun σ_6 x1_6 H locs ls hs G hl => ?_) FU _ _ _ _ _ _ hs G (lv_sub hl [1, 2, 0] rfl)
  refine lv_iconst (v := 0) hx hb dX12_yearOf_45 (by decide) ?_
  refine lv_istore_n (lv' := [(2, .int 0), (0, .ref (b + 132)), (1, .int x1_6)]) hx hb dX12_yearOf_46 rfl hl (by decide) rfl (fun ls hl => ?_)
  refine wX12_yearOf_47 C (fun σ_22 x1_22 H locs ls hs G hl => ?_) FU _ _ _ _ _ _ hs G (lv_sub hl [1, 2, 0] rfl)
  refine lv_aload_n hx hb dX12_yearOf_141 rfl (lv_at hl 0 rfl) ?_
  refine gf_X12_19 C G kd_132 (n' := 136) rfl dX12_yearOf_142 ?_
  refine lv_iload_n hx hb dX12_yearOf_145 rfl (lv_at hl 1 rfl) ?_
  refine lv_iconst (v := 0) hx hb dX12_yearOf_146 (by decide) ?_
  refine lv_iadd hx hb dX12_yearOf_147 ?_
  refine lv_aload_n hx hb dX12_yearOf_148 rfl (lv_at hl 0 rfl) ?_
  refine gf_X12_69 C G kd_132 dX12_yearOf_149 ?_
  obtain ⟨g_23, hs⟩ := gdE hs
  refine m_iast C G kd_136 ln_136 g_23 hs dX12_yearOf_152 (fun σ_23 H locs hs G => ?_)
  refine lv_aload_n hx hb dX12_yearOf_153 rfl (lv_at hl 0 rfl) ?_
  refine gf_X12_19 C G kd_132 (n' := 136) rfl dX12_yearOf_154 ?_
  refine lv_iload_n hx hb dX12_yearOf_157 rfl (lv_at hl 1 rfl) ?_
  refine lv_iconst (v := 1) hx hb dX12_yearOf_158 (by decide) ?_
  refine lv_iadd hx hb dX12_yearOf_159 ?_
  refine lv_dup2_11 hx hb dX12_yearOf_160 rfl rfl ?_
  obtain ⟨g_24, hs⟩ := gdE hs
  refine m_iald C G kd_136 ln_136 g_24 dX12_yearOf_161 ?_
  refine lv_iconst (v := 1) hx hb dX12_yearOf_162 (by decide) ?_
  refine lv_iadd hx hb dX12_yearOf_163 ?_
  obtain ⟨g_25, hs⟩ := gdE hs
  refine m_iast C G kd_136 ln_136 g_25 hs dX12_yearOf_164 (fun σ_25 H locs hs G => ?_)
  refine lv_aload_n hx hb dX12_yearOf_165 rfl (lv_at hl 0 rfl) ?_
  refine gf_X12_19 C G kd_132 (n' := 136) rfl dX12_yearOf_166 ?_
  refine lv_iload_n hx hb dX12_yearOf_169 rfl (lv_at hl 1 rfl) ?_
  refine lv_iconst (v := 3) hx hb dX12_yearOf_170 (by decide) ?_
  refine lv_iadd hx hb dX12_yearOf_171 ?_
  refine lv_iconst (v := 0) hx hb dX12_yearOf_172 (by decide) ?_
  obtain ⟨g_26, hs⟩ := gdE hs
  refine m_iast C G kd_136 ln_136 g_26 hs dX12_yearOf_173 (fun σ_26 H locs hs G => ?_)
  refine lv_aload_n hx hb dX12_yearOf_174 rfl (lv_at hl 0 rfl) ?_
  refine gf_X12_19 C G kd_132 (n' := 136) rfl dX12_yearOf_175 ?_
  refine lv_iload_n hx hb dX12_yearOf_178 rfl (lv_at hl 1 rfl) ?_
  refine lv_iconst (v := 4) hx hb dX12_yearOf_179 (by decide) ?_
  refine lv_iadd hx hb dX12_yearOf_180 ?_
  refine lv_iconst (v := 0) hx hb dX12_yearOf_181 (by decide) ?_
  obtain ⟨g_27, hs⟩ := gdE hs
  refine m_iast C G kd_136 ln_136 g_27 hs dX12_yearOf_182 (fun σ_27 H locs hs G => ?_)
  exact retV C G hs dX12_yearOf_183
-- X12_tries
def rmX12_tries : Room := { frames := 0, cells := 0, slots := 0, locals := 0 }
def fX12_tries_2b (kh : Sg → Int32 → Option Sg) (kx : Sg → Option Sg) (σ : Sg) (x1 : Int32) : Option Sg :=
  (if 30 ≤ x1 then kx σ else (if inb x1 60 then (if inb (30 + x1) 60 then lt (st σ 136 (30 + x1).toNatClampNeg (σ 136 x1.toNatClampNeg)) (fun σ_3 => lt (x1 + 1) (fun x1_4 => kh σ_3 x1_4)) else none) else none))
set_option maxRecDepth 100000 in
set_option maxHeartbeats 4000000 in
theorem wX12_tries_2b {p : Program} {l : Launch} {e : Env} {s : State} {m : MethodId} {args : Array Value} {below : List Frame} {meth : Method} {c : Code} {D : va_G} {cI cZ cO : ClassId} {b : Nat} (C : Cx p s m args meth c cX12_tries RX12 2 none D cI cZ cO) {Rr : Sg} {kh : Sg → Int32 → Option Sg} {kx : Sg → Option Sg} (hh : ∀ (σ : Sg) (x1 : Int32) (H : Heap) (locs : List Loc) (ls : Array Slot), kh σ x1 = some Rr → Gd b D cI cZ cO σ s.heap H locs → lv_has ls 2 [(0, .ref (b + 132)), (1, .int x1)] → W p l e rmX12_tries s m args below meth c H locs 0 0 (MQ below (QV b D cI cZ cO Rr) args s 0 0 (fun q => b ≤ q)) (F0 m 2 ls [])) (hxx : ∀ (σ : Sg) (H : Heap) (locs : List Loc) (ls : Array Slot), kx σ = some Rr → Gd b D cI cZ cO σ s.heap H locs → lv_has ls 2 [] → W p l e rmX12_tries s m args below meth c H locs 0 0 (MQ below (QV b D cI cZ cO Rr) args s 0 0 (fun q => b ≤ q)) (F0 m 29 ls [])) {σ : Sg} {x1 : Int32} {H : Heap} {locs : List Loc} {ls : Array Slot} (hs : fX12_tries_2b kh kx σ x1 = some Rr) (G : Gd b D cI cZ cO σ s.heap H locs) (hl : lv_has ls 2 [(0, .ref (b + 132)), (1, .int x1)]) : W p l e rmX12_tries s m args below meth c H locs 0 0 (MQ below (QV b D cI cZ cO Rr) args s 0 0 (fun q => b ≤ q)) (F0 m 2 ls []) := by
  have hx := C.1
  have hb := C.2.1
  unfold fX12_tries_2b at hs
  refine lv_iload_n hx hb dX12_tries_2 rfl (lv_at hl 1 rfl) ?_
  refine lv_bipush (v := 30) hx hb dX12_tries_3 (by decide) ?_
  refine lv_icmp_ge (tgt := 29) hx hb dX12_tries_5 (by decide) (fun c_1 => ?_) (fun c_1 => ?_)
  · replace hs := ifT c_1 hs
    exact hxx _ _ _ _ hs G (lv_sub hl [] rfl)
  · replace hs := ifF c_1 hs
    refine lv_aload_n hx hb dX12_tries_8 rfl (lv_at hl 0 rfl) ?_
    refine gf_X12_19 C G kd_132 (n' := 136) rfl dX12_tries_9 ?_
    refine lv_bipush (v := 30) hx hb dX12_tries_12 (by decide) ?_
    refine lv_iload_n hx hb dX12_tries_14 rfl (lv_at hl 1 rfl) ?_
    refine lv_iadd hx hb dX12_tries_15 ?_
    refine lv_aload_n hx hb dX12_tries_16 rfl (lv_at hl 0 rfl) ?_
    refine gf_X12_19 C G kd_132 (n' := 136) rfl dX12_tries_17 ?_
    refine lv_iload_n hx hb dX12_tries_20 rfl (lv_at hl 1 rfl) ?_
    obtain ⟨g_2, hs⟩ := gdE hs
    refine m_iald C G kd_136 ln_136 g_2 dX12_tries_21 ?_
    obtain ⟨g_3, hs⟩ := gdE hs
    refine m_iast C G kd_136 ln_136 g_3 hs dX12_tries_22 (fun σ_3 H locs hs G => ?_)
    obtain ⟨x1_4, e_4, hs⟩ := ltE hs
    refine lv_iinc (v := x1_4) (lv' := [(1, .int x1_4), (0, .ref (b + 132))]) hx hb dX12_tries_23 hl (k := 1) rfl (by rw [e_4]; rfl) (by decide) rfl (fun ls hl => ?_)
    refine lv_goto (tgt := 2) hx hb dX12_tries_26 (by decide) ?_
    exact hh _ _ _ _ _ hs G (lv_sub hl [1, 0] rfl)
def fX12_tries_2 : Nat → (Sg → Option Sg) → Sg → Int32 → Option Sg
  | 0, _, _, _ => none
  | fu + 1, kx, σ, x1 => fX12_tries_2b (fX12_tries_2 fu kx) kx σ x1
theorem fX12_tries_2_s (fu : Nat) (kx : Sg → Option Sg) (σ : Sg) (x1 : Int32) : fX12_tries_2 (fu + 1) kx σ x1 = fX12_tries_2b (fX12_tries_2 fu kx) kx σ x1 := by rw [fX12_tries_2]
theorem wX12_tries_2 {p : Program} {l : Launch} {e : Env} {s : State} {m : MethodId} {args : Array Value} {below : List Frame} {meth : Method} {c : Code} {D : va_G} {cI cZ cO : ClassId} {b : Nat} (C : Cx p s m args meth c cX12_tries RX12 2 none D cI cZ cO) {Rr : Sg} {kx : Sg → Option Sg} (hxx : ∀ (σ : Sg) (H : Heap) (locs : List Loc) (ls : Array Slot), kx σ = some Rr → Gd b D cI cZ cO σ s.heap H locs → lv_has ls 2 [] → W p l e rmX12_tries s m args below meth c H locs 0 0 (MQ below (QV b D cI cZ cO Rr) args s 0 0 (fun q => b ≤ q)) (F0 m 29 ls [])) : ∀ (fu : Nat) (σ : Sg) (x1 : Int32) (H : Heap) (locs : List Loc) (ls : Array Slot), fX12_tries_2 fu kx σ x1 = some Rr → Gd b D cI cZ cO σ s.heap H locs → lv_has ls 2 [(0, .ref (b + 132)), (1, .int x1)] → W p l e rmX12_tries s m args below meth c H locs 0 0 (MQ below (QV b D cI cZ cO Rr) args s 0 0 (fun q => b ≤ q)) (F0 m 2 ls []) := by
  intro fu
  induction fu with
  | zero => intro σ x1 H locs ls hs; cases hs
  | succ fu ih =>
    intro σ x1 H locs ls hs G hl
    exact wX12_tries_2b C (fun σ x1 H locs ls hs G hl => ih σ x1 H locs ls hs G hl) hxx hs G hl
def fX12_tries (σ : Sg) : Option Sg :=
  fX12_tries_2 FU (fun σ_5 => some σ_5) σ 0
set_option maxRecDepth 100000 in
set_option maxHeartbeats 4000000 in
theorem ctX12_tries (l : Launch) {D : va_G} {cI cZ cO : ClassId} {b : Nat} {σ : Sg} {Rr : Sg} (hs : fX12_tries σ = some Rr) : MV l yX12_tries cX12_tries 2 rmX12_tries [.ref (b + 132)] b D cI cZ cO σ Rr := by
  unfold fX12_tries at hs
  refine metV (by decide +kernel) (Nat.le_of_ble_eq_true rfl) (fun p e s m below meth c ls C G hl => ?_)
  have C : Cx p s m _ meth c cX12_tries RX12 2 none D cI cZ cO := C
  have hx := C.1
  have hb := C.2.1
  have hl : lv_has ls 2 [(0, .ref (b + 132))] := hl
  refine lv_iconst (v := 0) hx hb dX12_tries_0 (by decide) ?_
  refine lv_istore_n (lv' := [(1, .int 0), (0, .ref (b + 132))]) hx hb dX12_tries_1 rfl hl (by decide) rfl (fun ls hl => ?_)
  refine wX12_tries_2 C (fun σ_5 H locs ls hs G hl => ?_) FU _ _ _ _ _ hs G (lv_sub hl [1, 0] rfl)
  exact retV C G hs dX12_tries_29
-- X12_had
def rmX12_had : Room := { frames := 2, cells := 0, slots := 0, locals := 48 }
def fX12_had_12b (kh : Sg → Int32 → Int32 → Int32 → Int32 → Option (Int32 × Sg)) (kx : Sg → Int32 → Option (Int32 × Sg)) (σ : Sg) (x1 : Int32) (x2 : Int32) (x3 : Int32) (x4 : Int32) : Option (Int32 × Sg) :=
  (if x1 < x4 then kx σ x3 else bi (fX12_takes σ 0 x4 x2) (fun r_4 σ_4 => lt (x2 - r_4) (fun x2_5 => lt (x4 + 1) (fun x4_6 => kh σ_4 x1 x2_5 r_4 x4_6))))
set_option maxRecDepth 100000 in
set_option maxHeartbeats 4000000 in
theorem wX12_had_12b {p : Program} {l : Launch} {e : Env} {s : State} {m : MethodId} {args : Array Value} {below : List Frame} {meth : Method} {c : Code} {D : va_G} {cI cZ cO : ClassId} {b : Nat} (C : Cx p s m args meth c cX12_had RX12 5 (some .int) D cI cZ cO) {Rr : (Int32 × Sg)} {kh : Sg → Int32 → Int32 → Int32 → Int32 → Option (Int32 × Sg)} {kx : Sg → Int32 → Option (Int32 × Sg)} (hh : ∀ (σ : Sg) (x1 : Int32) (x2 : Int32) (x3 : Int32) (x4 : Int32) (H : Heap) (locs : List Loc) (ls : Array Slot), kh σ x1 x2 x3 x4 = some Rr → Gd b D cI cZ cO σ s.heap H locs → lv_has ls 5 [(0, .ref (b + 132)), (1, .int x1), (2, .int x2), (3, .int x3), (4, .int x4)] → W p l e rmX12_had s m args below meth c H locs 0 0 (MQ below (QI b D cI cZ cO Rr) args s 0 0 (fun q => b ≤ q)) (F0 m 12 ls [])) (hxx : ∀ (σ : Sg) (x3 : Int32) (H : Heap) (locs : List Loc) (ls : Array Slot), kx σ x3 = some Rr → Gd b D cI cZ cO σ s.heap H locs → lv_has ls 5 [(3, .int x3)] → W p l e rmX12_had s m args below meth c H locs 0 0 (MQ below (QI b D cI cZ cO Rr) args s 0 0 (fun q => b ≤ q)) (F0 m 37 ls [])) {σ : Sg} {x1 : Int32} {x2 : Int32} {x3 : Int32} {x4 : Int32} {H : Heap} {locs : List Loc} {ls : Array Slot} (hs : fX12_had_12b kh kx σ x1 x2 x3 x4 = some Rr) (G : Gd b D cI cZ cO σ s.heap H locs) (hl : lv_has ls 5 [(0, .ref (b + 132)), (1, .int x1), (2, .int x2), (3, .int x3), (4, .int x4)]) : W p l e rmX12_had s m args below meth c H locs 0 0 (MQ below (QI b D cI cZ cO Rr) args s 0 0 (fun q => b ≤ q)) (F0 m 12 ls []) := by
  have hx := C.1
  have hb := C.2.1
  unfold fX12_had_12b at hs
  refine lv_iload hx hb dX12_had_12 (lv_at hl 4 rfl) ?_
  refine lv_iload_n hx hb dX12_had_14 rfl (lv_at hl 1 rfl) ?_
  refine lv_icmp_gt (tgt := 37) hx hb dX12_had_15 (by decide) (fun c_3 => ?_) (fun c_3 => ?_)
  · replace hs := ifT c_3 hs
    exact hxx _ _ _ _ _ hs G (lv_sub hl [3] rfl)
  · replace hs := ifF c_3 hs
    refine lv_aload_n hx hb dX12_had_18 rfl (lv_at hl 0 rfl) ?_
    refine lv_iconst (v := 0) hx hb dX12_had_19 (by decide) ?_
    refine lv_iload hx hb dX12_had_20 (lv_at hl 4 rfl) ?_
    refine lv_iload_n hx hb dX12_had_22 rfl (lv_at hl 2 rfl) ?_
    obtain ⟨r_4, σ_4, hc, hs⟩ := biE hs
    refine callVI (ar := 3) (As := [.int 0, .int x4, .int x2]) (rest := []) C G hl.1 (ctX12_takes _  hc) ⟨wd_1065, wd_1067, wd_40, wd_81, wd_1068⟩ (by decide +kernel) rfl ⟨rfl, rfl⟩ ⟨Nat.le_of_ble_eq_true rfl, Nat.le_of_ble_eq_true rfl⟩ (kd_lt kd_132 (by decide)) (ent_12 b cI cZ cO _ kd_132) rfl (Nat.le_of_ble_eq_true rfl) ⟨Nat.le_of_ble_eq_true rfl, Nat.le_of_ble_eq_true rfl⟩ dX12_had_23 rfl (fun H locs G => ?_)
    refine lv_istore_n (lv' := [(3, .int r_4), (0, .ref (b + 132)), (1, .int x1), (2, .int x2), (4, .int x4)]) hx hb dX12_had_26 rfl hl (by decide) rfl (fun ls hl => ?_)
    refine lv_iload_n hx hb dX12_had_27 rfl (lv_at hl 3 rfl) ?_
    refine lv_iload_n hx hb dX12_had_28 rfl (lv_at hl 0 rfl) ?_
    refine lv_isub hx hb dX12_had_29 ?_
    refine topI hs (fun x2_5 hs => ?_)
    refine lv_istore_n (lv' := [(2, .int x2_5), (3, .int r_4), (0, .ref (b + 132)), (1, .int x1), (4, .int x4)]) hx hb dX12_had_30 rfl hl (by decide) rfl (fun ls hl => ?_)
    obtain ⟨x4_6, e_6, hs⟩ := ltE hs
    refine lv_iinc (v := x4_6) (lv' := [(4, .int x4_6), (2, .int x2_5), (3, .int r_4), (0, .ref (b + 132)), (1, .int x1)]) hx hb dX12_had_31 hl (k := 4) rfl (by rw [e_6]; rfl) (by decide) rfl (fun ls hl => ?_)
    refine lv_goto (tgt := 12) hx hb dX12_had_34 (by decide) ?_
    exact hh _ _ _ _ _ _ _ _ hs G (lv_sub hl [3, 4, 1, 2, 0] rfl)
def fX12_had_12 : Nat → (Sg → Int32 → Option (Int32 × Sg)) → Sg → Int32 → Int32 → Int32 → Int32 → Option (Int32 × Sg)
  | 0, _, _, _, _, _, _ => none
  | fu + 1, kx, σ, x1, x2, x3, x4 => fX12_had_12b (fX12_had_12 fu kx) kx σ x1 x2 x3 x4
theorem fX12_had_12_s (fu : Nat) (kx : Sg → Int32 → Option (Int32 × Sg)) (σ : Sg) (x1 : Int32) (x2 : Int32) (x3 : Int32) (x4 : Int32) : fX12_had_12 (fu + 1) kx σ x1 x2 x3 x4 = fX12_had_12b (fX12_had_12 fu kx) kx σ x1 x2 x3 x4 := by rw [fX12_had_12]
theorem wX12_had_12 {p : Program} {l : Launch} {e : Env} {s : State} {m : MethodId} {args : Array Value} {below : List Frame} {meth : Method} {c : Code} {D : va_G} {cI cZ cO : ClassId} {b : Nat} (C : Cx p s m args meth c cX12_had RX12 5 (some .int) D cI cZ cO) {Rr : (Int32 × Sg)} {kx : Sg → Int32 → Option (Int32 × Sg)} (hxx : ∀ (σ : Sg) (x3 : Int32) (H : Heap) (locs : List Loc) (ls : Array Slot), kx σ x3 = some Rr → Gd b D cI cZ cO σ s.heap H locs → lv_has ls 5 [(3, .int x3)] → W p l e rmX12_had s m args below meth c H locs 0 0 (MQ below (QI b D cI cZ cO Rr) args s 0 0 (fun q => b ≤ q)) (F0 m 37 ls [])) : ∀ (fu : Nat) (σ : Sg) (x1 : Int32) (x2 : Int32) (x3 : Int32) (x4 : Int32) (H : Heap) (locs : List Loc) (ls : Array Slot), fX12_had_12 fu kx σ x1 x2 x3 x4 = some Rr → Gd b D cI cZ cO σ s.heap H locs → lv_has ls 5 [(0, .ref (b + 132)), (1, .int x1), (2, .int x2), (3, .int x3), (4, .int x4)] → W p l e rmX12_had s m args below meth c H locs 0 0 (MQ below (QI b D cI cZ cO Rr) args s 0 0 (fun q => b ≤ q)) (F0 m 12 ls []) := by
  intro fu
  induction fu with
  | zero => intro σ x1 x2 x3 x4 H locs ls hs; cases hs
  | succ fu ih =>
    intro σ x1 x2 x3 x4 H locs ls hs G hl
    exact wX12_had_12b C (fun σ x1 x2 x3 x4 H locs ls hs G hl => ih σ x1 x2 x3 x4 H locs ls hs G hl) hxx hs G hl
def fX12_had (σ : Sg) (x1 : Int32) : Option (Int32 × Sg) :=
  (if inb 2 60 then lt (σ 136 (2 : Int32).toNatClampNeg) (fun x2_2 => fX12_had_12 FU (fun σ_7 x3_7 => some (x3_7, σ_7)) σ x1 x2_2 0 0) else none)
set_option maxRecDepth 100000 in
set_option maxHeartbeats 4000000 in
theorem ctX12_had (l : Launch) {D : va_G} {cI cZ cO : ClassId} {b : Nat} {σ : Sg} {x1 : Int32} {Rr : (Int32 × Sg)} (hs : fX12_had σ x1 = some Rr) : MI l yX12_had cX12_had 5 (some .int) rmX12_had [.ref (b + 132), .int x1] b D cI cZ cO σ Rr := by
  unfold fX12_had at hs
  refine metI (by decide +kernel) (Nat.le_of_ble_eq_true rfl) (fun p e s m below meth c ls C G hl => ?_)
  have C : Cx p s m _ meth c cX12_had RX12 5 (some .int) D cI cZ cO := C
  have hx := C.1
  have hb := C.2.1
  have hl : lv_has ls 5 [(0, .ref (b + 132)), (1, .int x1)] := hl
  refine lv_aload_n hx hb dX12_had_0 rfl (lv_at hl 0 rfl) ?_
  refine gf_X12_19 C G kd_132 (n' := 136) rfl dX12_had_1 ?_
  refine lv_iconst (v := 2) hx hb dX12_had_4 (by decide) ?_
  obtain ⟨g_1, hs⟩ := gdE hs
  refine m_iald C G kd_136 ln_136 g_1 dX12_had_5 ?_
  refine topI hs (fun x2_2 hs => ?_)
  refine lv_istore_n (lv' := [(2, .int x2_2), (0, .ref (b + 132)), (1, .int x1)]) hx hb dX12_had_6 rfl hl (by decide) rfl (fun ls hl => ?_)
  refine lv_iconst (v := 0) hx hb dX12_had_7 (by decide) ?_
  refine lv_istore_n (lv' := [(3, .int 0), (2, .int x2_2), (0, .ref (b + 132)), (1, .int x1)]) hx hb dX12_had_8 rfl hl (by decide) rfl (fun ls hl => ?_)
  refine lv_iconst (v := 0) hx hb dX12_had_9 (by decide) ?_
  refine lv_istore (lv' := [(4, .int 0), (3, .int 0), (2, .int x2_2), (0, .ref (b + 132)), (1, .int x1)]) hx hb dX12_had_10 hl (by decide) rfl (fun ls hl => ?_)
  refine wX12_had_12 C (fun σ_7 x3_7 H locs ls hs G hl => ?_) FU _ _ _ _ _ _ _ _ hs G (lv_sub hl [3, 4, 2, 1, 0] rfl)
  refine lv_iload_n hx hb dX12_had_37 rfl (lv_at hl 0 rfl) ?_
  exact retI C G hs dX12_had_38
-- X12_borne
def rmX12_borne : Room := { frames := 3, cells := 0, slots := 0, locals := 73 }
def fX12_borne (σ : Sg) : Option (Int32 × Sg) :=
  bv (fX12_tries σ) (fun σ_1 => bv (fX12_yearOf σ_1 30) (fun σ_2 => (if inb 32 60 then (if (σ_2 136 (32 : Int32).toNatClampNeg) = 0 then some (1, σ_2) else some (0, σ_2)) else none)))
set_option maxRecDepth 100000 in
set_option maxHeartbeats 4000000 in
theorem ctX12_borne (l : Launch) {D : va_G} {cI cZ cO : ClassId} {b : Nat} {σ : Sg} {Rr : (Int32 × Sg)} (hs : fX12_borne σ = some Rr) : MI l yX12_borne cX12_borne 1 (some .int) rmX12_borne [.ref (b + 132)] b D cI cZ cO σ Rr := by
  unfold fX12_borne at hs
  refine metI (by decide +kernel) (Nat.le_of_ble_eq_true rfl) (fun p e s m below meth c ls C G hl => ?_)
  have C : Cx p s m _ meth c cX12_borne RX12 1 (some .int) D cI cZ cO := C
  have hx := C.1
  have hb := C.2.1
  have hl : lv_has ls 1 [(0, .ref (b + 132))] := hl
  refine lv_aload_n hx hb dX12_borne_0 rfl (lv_at hl 0 rfl) ?_
  obtain ⟨σ_1, hc, hs⟩ := bvE hs
  refine callVV (ar := 0) (As := []) (rest := []) C G hl.1 (ctX12_tries _  hc) ⟨wd_1049, wd_1051, wd_36, wd_81, wd_1052⟩ (by decide +kernel) rfl ⟨rfl, rfl⟩ ⟨Nat.le_of_ble_eq_true rfl, Nat.le_of_ble_eq_true rfl⟩ (kd_lt kd_132 (by decide)) (ent_12 b cI cZ cO _ kd_132) rfl (Nat.le_of_ble_eq_true rfl) ⟨Nat.le_of_ble_eq_true rfl, Nat.le_of_ble_eq_true rfl⟩ dX12_borne_1 rfl (fun H locs G => ?_)
  refine lv_aload_n hx hb dX12_borne_4 rfl (lv_at hl 0 rfl) ?_
  refine lv_bipush (v := 30) hx hb dX12_borne_5 (by decide) ?_
  obtain ⟨σ_2, hc, hs⟩ := bvE hs
  refine callVV (ar := 1) (As := [.int 30]) (rest := []) C G hl.1 (ctX12_yearOf _  hc) ⟨wd_1053, wd_1055, wd_37, wd_81, wd_1056⟩ (by decide +kernel) rfl ⟨rfl, rfl⟩ ⟨Nat.le_of_ble_eq_true rfl, Nat.le_of_ble_eq_true rfl⟩ (kd_lt kd_132 (by decide)) (ent_12 b cI cZ cO _ kd_132) rfl (Nat.le_of_ble_eq_true rfl) ⟨Nat.le_of_ble_eq_true rfl, Nat.le_of_ble_eq_true rfl⟩ dX12_borne_7 rfl (fun H locs G => ?_)
  refine lv_aload_n hx hb dX12_borne_10 rfl (lv_at hl 0 rfl) ?_
  refine gf_X12_19 C G kd_132 (n' := 136) rfl dX12_borne_11 ?_
  refine lv_bipush (v := 32) hx hb dX12_borne_14 (by decide) ?_
  obtain ⟨g_3, hs⟩ := gdE hs
  refine m_iald C G kd_136 ln_136 g_3 dX12_borne_16 ?_
  refine lv_if_ne (tgt := 24) hx hb dX12_borne_17 (by decide) (fun c_4 => ?_) (fun c_4 => ?_)
  · replace hs := ifF c_4 hs
    refine lv_iconst (v := 0) hx hb dX12_borne_24 (by decide) ?_
    exact retI C G hs dX12_borne_25
  · replace hs := ifT c_4 hs
    refine lv_iconst (v := 1) hx hb dX12_borne_20 (by decide) ?_
    refine lv_goto (tgt := 25) hx hb dX12_borne_21 (by decide) ?_
    exact retI C G hs dX12_borne_25
-- X12_madeUp
def rmX12_madeUp : Room := { frames := 3, cells := 0, slots := 0, locals := 73 }
def fX12_madeUp_6b (kh : Sg → Int32 → Option (Int32 × Sg)) (kx : Sg → Option (Int32 × Sg)) (σ : Sg) (x1 : Int32) : Option (Int32 × Sg) :=
  (if 60 < x1 then kx σ else (if inb 32 60 then (if (σ 136 (32 : Int32).toNatClampNeg) = 0 then some (x1, σ) else bv (fX12_yearOf σ 30) (fun σ_5 => lt (x1 + 1) (fun x1_6 => kh σ_5 x1_6))) else none))
set_option maxRecDepth 100000 in
set_option maxHeartbeats 4000000 in
theorem wX12_madeUp_6b {p : Program} {l : Launch} {e : Env} {s : State} {m : MethodId} {args : Array Value} {below : List Frame} {meth : Method} {c : Code} {D : va_G} {cI cZ cO : ClassId} {b : Nat} (C : Cx p s m args meth c cX12_madeUp RX12 2 (some .int) D cI cZ cO) {Rr : (Int32 × Sg)} {kh : Sg → Int32 → Option (Int32 × Sg)} {kx : Sg → Option (Int32 × Sg)} (hh : ∀ (σ : Sg) (x1 : Int32) (H : Heap) (locs : List Loc) (ls : Array Slot), kh σ x1 = some Rr → Gd b D cI cZ cO σ s.heap H locs → lv_has ls 2 [(0, .ref (b + 132)), (1, .int x1)] → W p l e rmX12_madeUp s m args below meth c H locs 0 0 (MQ below (QI b D cI cZ cO Rr) args s 0 0 (fun q => b ≤ q)) (F0 m 6 ls [])) (hxx : ∀ (σ : Sg) (H : Heap) (locs : List Loc) (ls : Array Slot), kx σ = some Rr → Gd b D cI cZ cO σ s.heap H locs → lv_has ls 2 [] → W p l e rmX12_madeUp s m args below meth c H locs 0 0 (MQ below (QI b D cI cZ cO Rr) args s 0 0 (fun q => b ≤ q)) (F0 m 36 ls [])) {σ : Sg} {x1 : Int32} {H : Heap} {locs : List Loc} {ls : Array Slot} (hs : fX12_madeUp_6b kh kx σ x1 = some Rr) (G : Gd b D cI cZ cO σ s.heap H locs) (hl : lv_has ls 2 [(0, .ref (b + 132)), (1, .int x1)]) : W p l e rmX12_madeUp s m args below meth c H locs 0 0 (MQ below (QI b D cI cZ cO Rr) args s 0 0 (fun q => b ≤ q)) (F0 m 6 ls []) := by
  have hx := C.1
  have hb := C.2.1
  unfold fX12_madeUp_6b at hs
  refine lv_iload_n hx hb dX12_madeUp_6 rfl (lv_at hl 1 rfl) ?_
  refine lv_bipush (v := 60) hx hb dX12_madeUp_7 (by decide) ?_
  refine lv_icmp_gt (tgt := 36) hx hb dX12_madeUp_9 (by decide) (fun c_2 => ?_) (fun c_2 => ?_)
  · replace hs := ifT c_2 hs
    exact hxx _ _ _ _ hs G (lv_sub hl [] rfl)
  · replace hs := ifF c_2 hs
    refine lv_aload_n hx hb dX12_madeUp_12 rfl (lv_at hl 0 rfl) ?_
    refine gf_X12_19 C G kd_132 (n' := 136) rfl dX12_madeUp_13 ?_
    refine lv_bipush (v := 32) hx hb dX12_madeUp_16 (by decide) ?_
    obtain ⟨g_3, hs⟩ := gdE hs
    refine m_iald C G kd_136 ln_136 g_3 dX12_madeUp_18 ?_
    refine lv_if_ne (tgt := 24) hx hb dX12_madeUp_19 (by decide) (fun c_4 => ?_) (fun c_4 => ?_)
    · replace hs := ifF c_4 hs
      refine lv_aload_n hx hb dX12_madeUp_24 rfl (lv_at hl 0 rfl) ?_
      refine lv_bipush (v := 30) hx hb dX12_madeUp_25 (by decide) ?_
      obtain ⟨σ_5, hc, hs⟩ := bvE hs
      refine callVV (ar := 1) (As := [.int 30]) (rest := []) C G hl.1 (ctX12_yearOf _  hc) ⟨wd_1053, wd_1055, wd_37, wd_81, wd_1056⟩ (by decide +kernel) rfl ⟨rfl, rfl⟩ ⟨Nat.le_of_ble_eq_true rfl, Nat.le_of_ble_eq_true rfl⟩ (kd_lt kd_132 (by decide)) (ent_12 b cI cZ cO _ kd_132) rfl (Nat.le_of_ble_eq_true rfl) ⟨Nat.le_of_ble_eq_true rfl, Nat.le_of_ble_eq_true rfl⟩ dX12_madeUp_27 rfl (fun H locs G => ?_)
      obtain ⟨x1_6, e_6, hs⟩ := ltE hs
      refine lv_iinc (v := x1_6) (lv' := [(1, .int x1_6), (0, .ref (b + 132))]) hx hb dX12_madeUp_30 hl (k := 1) rfl (by rw [e_6]; rfl) (by decide) rfl (fun ls hl => ?_)
      refine lv_goto (tgt := 6) hx hb dX12_madeUp_33 (by decide) ?_
      exact hh _ _ _ _ _ hs G (lv_sub hl [1, 0] rfl)
    · replace hs := ifT c_4 hs
      refine lv_iload_n hx hb dX12_madeUp_22 rfl (lv_at hl 1 rfl) ?_
      exact retI C G hs dX12_madeUp_23
def fX12_madeUp_6 : Nat → (Sg → Option (Int32 × Sg)) → Sg → Int32 → Option (Int32 × Sg)
  | 0, _, _, _ => none
  | fu + 1, kx, σ, x1 => fX12_madeUp_6b (fX12_madeUp_6 fu kx) kx σ x1
theorem fX12_madeUp_6_s (fu : Nat) (kx : Sg → Option (Int32 × Sg)) (σ : Sg) (x1 : Int32) : fX12_madeUp_6 (fu + 1) kx σ x1 = fX12_madeUp_6b (fX12_madeUp_6 fu kx) kx σ x1 := by rw [fX12_madeUp_6]
theorem wX12_madeUp_6 {p : Program} {l : Launch} {e : Env} {s : State} {m : MethodId} {args : Array Value} {below : List Frame} {meth : Method} {c : Code} {D : va_G} {cI cZ cO : ClassId} {b : Nat} (C : Cx p s m args meth c cX12_madeUp RX12 2 (some .int) D cI cZ cO) {Rr : (Int32 × Sg)} {kx : Sg → Option (Int32 × Sg)} (hxx : ∀ (σ : Sg) (H : Heap) (locs : List Loc) (ls : Array Slot), kx σ = some Rr → Gd b D cI cZ cO σ s.heap H locs → lv_has ls 2 [] → W p l e rmX12_madeUp s m args below meth c H locs 0 0 (MQ below (QI b D cI cZ cO Rr) args s 0 0 (fun q => b ≤ q)) (F0 m 36 ls [])) : ∀ (fu : Nat) (σ : Sg) (x1 : Int32) (H : Heap) (locs : List Loc) (ls : Array Slot), fX12_madeUp_6 fu kx σ x1 = some Rr → Gd b D cI cZ cO σ s.heap H locs → lv_has ls 2 [(0, .ref (b + 132)), (1, .int x1)] → W p l e rmX12_madeUp s m args below meth c H locs 0 0 (MQ below (QI b D cI cZ cO Rr) args s 0 0 (fun q => b ≤ q)) (F0 m 6 ls []) := by
  intro fu
  induction fu with
  | zero => intro σ x1 H locs ls hs; cases hs
  | succ fu ih =>
    intro σ x1 H locs ls hs G hl
    exact wX12_madeUp_6b C (fun σ x1 H locs ls hs G hl => ih σ x1 H locs ls hs G hl) hxx hs G hl
def fX12_madeUp (σ : Sg) : Option (Int32 × Sg) :=
  bv (fX12_tries σ) (fun σ_1 => fX12_madeUp_6 FU (fun σ_7 => some ((-1), σ_7)) σ_1 0)
set_option maxRecDepth 100000 in
set_option maxHeartbeats 4000000 in
theorem ctX12_madeUp (l : Launch) {D : va_G} {cI cZ cO : ClassId} {b : Nat} {σ : Sg} {Rr : (Int32 × Sg)} (hs : fX12_madeUp σ = some Rr) : MI l yX12_madeUp cX12_madeUp 2 (some .int) rmX12_madeUp [.ref (b + 132)] b D cI cZ cO σ Rr := by
  unfold fX12_madeUp at hs
  refine metI (by decide +kernel) (Nat.le_of_ble_eq_true rfl) (fun p e s m below meth c ls C G hl => ?_)
  have C : Cx p s m _ meth c cX12_madeUp RX12 2 (some .int) D cI cZ cO := C
  have hx := C.1
  have hb := C.2.1
  have hl : lv_has ls 2 [(0, .ref (b + 132))] := hl
  refine lv_aload_n hx hb dX12_madeUp_0 rfl (lv_at hl 0 rfl) ?_
  obtain ⟨σ_1, hc, hs⟩ := bvE hs
  refine callVV (ar := 0) (As := []) (rest := []) C G hl.1 (ctX12_tries _  hc) ⟨wd_1049, wd_1051, wd_36, wd_81, wd_1052⟩ (by decide +kernel) rfl ⟨rfl, rfl⟩ ⟨Nat.le_of_ble_eq_true rfl, Nat.le_of_ble_eq_true rfl⟩ (kd_lt kd_132 (by decide)) (ent_12 b cI cZ cO _ kd_132) rfl (Nat.le_of_ble_eq_true rfl) ⟨Nat.le_of_ble_eq_true rfl, Nat.le_of_ble_eq_true rfl⟩ dX12_madeUp_1 rfl (fun H locs G => ?_)
  refine lv_iconst (v := 0) hx hb dX12_madeUp_4 (by decide) ?_
  refine lv_istore_n (lv' := [(1, .int 0), (0, .ref (b + 132))]) hx hb dX12_madeUp_5 rfl hl (by decide) rfl (fun ls hl => ?_)
  refine wX12_madeUp_6 C (fun σ_7 H locs ls hs G hl => ?_) FU _ _ _ _ _ hs G (lv_sub hl [1, 0] rfl)
  refine lv_iconst (v := (-1)) hx hb dX12_madeUp_36 (by decide) ?_
  exact retI C G hs dX12_madeUp_37
-- X12_toldFate
def rmX12_toldFate : Room := { frames := 0, cells := 0, slots := 0, locals := 0 }
def fX12_toldFate_32 (kh : Sg → Int32 → Int32 → Option (Int32 × Sg)) (kx : Sg → Int32 → Option (Int32 × Sg)) (σ : Sg) (x2 : Int32) (y0 : Int32) (y1 : Int32) : Option (Int32 × Sg) :=
  lt (y1 ||| y0) (fun x1_4 => lt (x2 + 1) (fun x2_5 => kh σ x1_4 x2_5))
set_option maxRecDepth 100000 in
set_option maxHeartbeats 4000000 in
theorem wX12_toldFate_32 {p : Program} {l : Launch} {e : Env} {s : State} {m : MethodId} {args : Array Value} {below : List Frame} {meth : Method} {c : Code} {D : va_G} {cI cZ cO : ClassId} {b : Nat} (C : Cx p s m args meth c cX12_toldFate RX12 3 (some .int) D cI cZ cO) {Rr : (Int32 × Sg)} {kh : Sg → Int32 → Int32 → Option (Int32 × Sg)} {kx : Sg → Int32 → Option (Int32 × Sg)} (hh : ∀ (σ : Sg) (x1 : Int32) (x2 : Int32) (H : Heap) (locs : List Loc) (ls : Array Slot), kh σ x1 x2 = some Rr → Gd b D cI cZ cO σ s.heap H locs → lv_has ls 3 [(0, .ref (b + 132)), (1, .int x1), (2, .int x2)] → W p l e rmX12_toldFate s m args below meth c H locs 0 0 (MQ below (QI b D cI cZ cO Rr) args s 0 0 (fun q => b ≤ q)) (F0 m 4 ls [])) (hxx : ∀ (σ : Sg) (x1 : Int32) (H : Heap) (locs : List Loc) (ls : Array Slot), kx σ x1 = some Rr → Gd b D cI cZ cO σ s.heap H locs → lv_has ls 3 [(1, .int x1)] → W p l e rmX12_toldFate s m args below meth c H locs 0 0 (MQ below (QI b D cI cZ cO Rr) args s 0 0 (fun q => b ≤ q)) (F0 m 40 ls [])) {σ : Sg} {x2 : Int32} {y0 : Int32} {y1 : Int32} {H : Heap} {locs : List Loc} {ls : Array Slot} (hs : fX12_toldFate_32 kh kx σ x2 y0 y1 = some Rr) (G : Gd b D cI cZ cO σ s.heap H locs) (hl : lv_has ls 3 [(0, .ref (b + 132)), (2, .int x2)]) : W p l e rmX12_toldFate s m args below meth c H locs 0 0 (MQ below (QI b D cI cZ cO Rr) args s 0 0 (fun q => b ≤ q)) (F0 m 32 ls [.int y0, .int y1]) := by
  have hx := C.1
  have hb := C.2.1
  unfold fX12_toldFate_32 at hs
  refine lv_ior hx hb dX12_toldFate_32 ?_
  refine topI hs (fun x1_4 hs => ?_)
  refine lv_istore_n (lv' := [(1, .int x1_4), (0, .ref (b + 132)), (2, .int x2)]) hx hb dX12_toldFate_33 rfl hl (by decide) rfl (fun ls hl => ?_)
  obtain ⟨x2_5, e_5, hs⟩ := ltE hs
  refine lv_iinc (v := x2_5) (lv' := [(2, .int x2_5), (1, .int x1_4), (0, .ref (b + 132))]) hx hb dX12_toldFate_34 hl (k := 2) rfl (by rw [e_5]; rfl) (by decide) rfl (fun ls hl => ?_)
  refine lv_goto (tgt := 4) hx hb dX12_toldFate_37 (by decide) ?_
  exact hh _ _ _ _ _ _ hs G (lv_sub hl [2, 1, 0] rfl)
def fX12_toldFate_4b (kh : Sg → Int32 → Int32 → Option (Int32 × Sg)) (kx : Sg → Int32 → Option (Int32 × Sg)) (σ : Sg) (x1 : Int32) (x2 : Int32) : Option (Int32 × Sg) :=
  (if (σ 132 3) ≤ x2 then kx σ x1 else (if inb (12 + x2) 60 then (if (σ 136 (12 + x2).toNatClampNeg) ≤ 0 then fX12_toldFate_32 kh kx σ x2 0 x1 else fX12_toldFate_32 kh kx σ x2 ((1 : Int32) <<< (x2 &&& 31)) x1) else none))
set_option maxRecDepth 100000 in
set_option maxHeartbeats 4000000 in
theorem wX12_toldFate_4b {p : Program} {l : Launch} {e : Env} {s : State} {m : MethodId} {args : Array Value} {below : List Frame} {meth : Method} {c : Code} {D : va_G} {cI cZ cO : ClassId} {b : Nat} (C : Cx p s m args meth c cX12_toldFate RX12 3 (some .int) D cI cZ cO) {Rr : (Int32 × Sg)} {kh : Sg → Int32 → Int32 → Option (Int32 × Sg)} {kx : Sg → Int32 → Option (Int32 × Sg)} (hh : ∀ (σ : Sg) (x1 : Int32) (x2 : Int32) (H : Heap) (locs : List Loc) (ls : Array Slot), kh σ x1 x2 = some Rr → Gd b D cI cZ cO σ s.heap H locs → lv_has ls 3 [(0, .ref (b + 132)), (1, .int x1), (2, .int x2)] → W p l e rmX12_toldFate s m args below meth c H locs 0 0 (MQ below (QI b D cI cZ cO Rr) args s 0 0 (fun q => b ≤ q)) (F0 m 4 ls [])) (hxx : ∀ (σ : Sg) (x1 : Int32) (H : Heap) (locs : List Loc) (ls : Array Slot), kx σ x1 = some Rr → Gd b D cI cZ cO σ s.heap H locs → lv_has ls 3 [(1, .int x1)] → W p l e rmX12_toldFate s m args below meth c H locs 0 0 (MQ below (QI b D cI cZ cO Rr) args s 0 0 (fun q => b ≤ q)) (F0 m 40 ls [])) {σ : Sg} {x1 : Int32} {x2 : Int32} {H : Heap} {locs : List Loc} {ls : Array Slot} (hs : fX12_toldFate_4b kh kx σ x1 x2 = some Rr) (G : Gd b D cI cZ cO σ s.heap H locs) (hl : lv_has ls 3 [(0, .ref (b + 132)), (1, .int x1), (2, .int x2)]) : W p l e rmX12_toldFate s m args below meth c H locs 0 0 (MQ below (QI b D cI cZ cO Rr) args s 0 0 (fun q => b ≤ q)) (F0 m 4 ls []) := by
  have hx := C.1
  have hb := C.2.1
  unfold fX12_toldFate_4b at hs
  refine lv_iload_n hx hb dX12_toldFate_4 rfl (lv_at hl 2 rfl) ?_
  refine lv_aload_n hx hb dX12_toldFate_5 rfl (lv_at hl 0 rfl) ?_
  refine gf_X12_72 C G kd_132 dX12_toldFate_6 ?_
  refine lv_icmp_ge (tgt := 40) hx hb dX12_toldFate_9 (by decide) (fun c_1 => ?_) (fun c_1 => ?_)
  · replace hs := ifT c_1 hs
    exact hxx _ _ _ _ _ hs G (lv_sub hl [1] rfl)
  · replace hs := ifF c_1 hs
    refine lv_iload_n hx hb dX12_toldFate_12 rfl (lv_at hl 1 rfl) ?_
    refine lv_aload_n hx hb dX12_toldFate_13 rfl (lv_at hl 0 rfl) ?_
    refine gf_X12_19 C G kd_132 (n' := 136) rfl dX12_toldFate_14 ?_
    refine lv_bipush (v := 12) hx hb dX12_toldFate_17 (by decide) ?_
    refine lv_iload_n hx hb dX12_toldFate_19 rfl (lv_at hl 2 rfl) ?_
    refine lv_iadd hx hb dX12_toldFate_20 ?_
    obtain ⟨g_2, hs⟩ := gdE hs
    refine m_iald C G kd_136 ln_136 g_2 dX12_toldFate_21 ?_
    refine lv_if_le (tgt := 31) hx hb dX12_toldFate_22 (by decide) (fun c_3 => ?_) (fun c_3 => ?_)
    · replace hs := ifT c_3 hs
      refine lv_iconst (v := 0) hx hb dX12_toldFate_31 (by decide) ?_
      exact wX12_toldFate_32 C  hh hxx hs G (lv_sub hl [0, 2] rfl)
    · replace hs := ifF c_3 hs
      refine lv_iconst (v := 1) hx hb dX12_toldFate_25 (by decide) ?_
      refine lv_iload_n hx hb dX12_toldFate_26 rfl (lv_at hl 2 rfl) ?_
      refine lv_ishl hx hb dX12_toldFate_27 ?_
      refine lv_goto (tgt := 32) hx hb dX12_toldFate_28 (by decide) ?_
      exact wX12_toldFate_32 C  hh hxx hs G (lv_sub hl [0, 2] rfl)
def fX12_toldFate_4 : Nat → (Sg → Int32 → Option (Int32 × Sg)) → Sg → Int32 → Int32 → Option (Int32 × Sg)
  | 0, _, _, _, _ => none
  | fu + 1, kx, σ, x1, x2 => fX12_toldFate_4b (fX12_toldFate_4 fu kx) kx σ x1 x2
theorem fX12_toldFate_4_s (fu : Nat) (kx : Sg → Int32 → Option (Int32 × Sg)) (σ : Sg) (x1 : Int32) (x2 : Int32) : fX12_toldFate_4 (fu + 1) kx σ x1 x2 = fX12_toldFate_4b (fX12_toldFate_4 fu kx) kx σ x1 x2 := by rw [fX12_toldFate_4]
theorem wX12_toldFate_4 {p : Program} {l : Launch} {e : Env} {s : State} {m : MethodId} {args : Array Value} {below : List Frame} {meth : Method} {c : Code} {D : va_G} {cI cZ cO : ClassId} {b : Nat} (C : Cx p s m args meth c cX12_toldFate RX12 3 (some .int) D cI cZ cO) {Rr : (Int32 × Sg)} {kx : Sg → Int32 → Option (Int32 × Sg)} (hxx : ∀ (σ : Sg) (x1 : Int32) (H : Heap) (locs : List Loc) (ls : Array Slot), kx σ x1 = some Rr → Gd b D cI cZ cO σ s.heap H locs → lv_has ls 3 [(1, .int x1)] → W p l e rmX12_toldFate s m args below meth c H locs 0 0 (MQ below (QI b D cI cZ cO Rr) args s 0 0 (fun q => b ≤ q)) (F0 m 40 ls [])) : ∀ (fu : Nat) (σ : Sg) (x1 : Int32) (x2 : Int32) (H : Heap) (locs : List Loc) (ls : Array Slot), fX12_toldFate_4 fu kx σ x1 x2 = some Rr → Gd b D cI cZ cO σ s.heap H locs → lv_has ls 3 [(0, .ref (b + 132)), (1, .int x1), (2, .int x2)] → W p l e rmX12_toldFate s m args below meth c H locs 0 0 (MQ below (QI b D cI cZ cO Rr) args s 0 0 (fun q => b ≤ q)) (F0 m 4 ls []) := by
  intro fu
  induction fu with
  | zero => intro σ x1 x2 H locs ls hs; cases hs
  | succ fu ih =>
    intro σ x1 x2 H locs ls hs G hl
    exact wX12_toldFate_4b C (fun σ x1 x2 H locs ls hs G hl => ih σ x1 x2 H locs ls hs G hl) hxx hs G hl
def fX12_toldFate (σ : Sg) : Option (Int32 × Sg) :=
  fX12_toldFate_4 FU (fun σ_6 x1_6 => some (x1_6, σ_6)) σ 0 0
set_option maxRecDepth 100000 in
set_option maxHeartbeats 4000000 in
theorem ctX12_toldFate (l : Launch) {D : va_G} {cI cZ cO : ClassId} {b : Nat} {σ : Sg} {Rr : (Int32 × Sg)} (hs : fX12_toldFate σ = some Rr) : MI l yX12_toldFate cX12_toldFate 3 (some .int) rmX12_toldFate [.ref (b + 132)] b D cI cZ cO σ Rr := by
  unfold fX12_toldFate at hs
  refine metI (by decide +kernel) (Nat.le_of_ble_eq_true rfl) (fun p e s m below meth c ls C G hl => ?_)
  have C : Cx p s m _ meth c cX12_toldFate RX12 3 (some .int) D cI cZ cO := C
  have hx := C.1
  have hb := C.2.1
  have hl : lv_has ls 3 [(0, .ref (b + 132))] := hl
  refine lv_iconst (v := 0) hx hb dX12_toldFate_0 (by decide) ?_
  refine lv_istore_n (lv' := [(1, .int 0), (0, .ref (b + 132))]) hx hb dX12_toldFate_1 rfl hl (by decide) rfl (fun ls hl => ?_)
  refine lv_iconst (v := 0) hx hb dX12_toldFate_2 (by decide) ?_
  refine lv_istore_n (lv' := [(2, .int 0), (1, .int 0), (0, .ref (b + 132))]) hx hb dX12_toldFate_3 rfl hl (by decide) rfl (fun ls hl => ?_)
  refine wX12_toldFate_4 C (fun σ_6 x1_6 H locs ls hs G hl => ?_) FU _ _ _ _ _ _ hs G (lv_sub hl [2, 1, 0] rfl)
  refine lv_iload_n hx hb dX12_toldFate_40 rfl (lv_at hl 0 rfl) ?_
  exact retI C G hs dX12_toldFate_41
