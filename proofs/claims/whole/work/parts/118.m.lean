-- X12_askNext
def rmX12_askNext : Room := { frames := 3, cells := 0, slots := 0, locals := 68 }
def fX12_askNext_64 (kh : Sg → Int32 → Int32 → Int32 → Int32 → Int32 → Int32 → Option (Int32 × Sg)) (kx : Sg → Int32 → Int32 → Int32 → Int32 → Int32 → Option (Int32 × Sg)) (σ : Sg) (x1 : Int32) (x2 : Int32) (x3 : Int32) (x4 : Int32) (x6 : Int32) (y0 : Int32) (y1 : Int32) : Option (Int32 × Sg) :=
  lt (y1 + y0) (fun x5_7 => lt (x6 + 1) (fun x6_8 => kh σ x1 x2 x3 x4 x5_7 x6_8))
set_option maxRecDepth 100000 in
set_option maxHeartbeats 4000000 in
theorem wX12_askNext_64 {p : Program} {l : Launch} {e : Env} {s : State} {m : MethodId} {args : Array Value} {below : List Frame} {meth : Method} {c : Code} {D : va_G} {cI cZ cO : ClassId} {b : Nat} (C : Cx p s m args meth c cX12_askNext RX12 7 (some .int) D cI cZ cO) {Rr : (Int32 × Sg)} {kh : Sg → Int32 → Int32 → Int32 → Int32 → Int32 → Int32 → Option (Int32 × Sg)} {kx : Sg → Int32 → Int32 → Int32 → Int32 → Int32 → Option (Int32 × Sg)} (hh : ∀ (σ : Sg) (x1 : Int32) (x2 : Int32) (x3 : Int32) (x4 : Int32) (x5 : Int32) (x6 : Int32) (H : Heap) (locs : List Loc) (ls : Array Slot), kh σ x1 x2 x3 x4 x5 x6 = some Rr → Gd b D cI cZ cO σ s.heap H locs → lv_has ls 7 [(0, .ref (b + 132)), (1, .int x1), (2, .int x2), (3, .int x3), (4, .int x4), (5, .int x5), (6, .int x6)] → W p l e rmX12_askNext s m args below meth c H locs 0 0 (MQ below (QI b D cI cZ cO Rr) args s 0 0 (fun q => b ≤ q)) (F0 m 27 ls [])) (hxx : ∀ (σ : Sg) (x1 : Int32) (x2 : Int32) (x3 : Int32) (x4 : Int32) (x5 : Int32) (H : Heap) (locs : List Loc) (ls : Array Slot), kx σ x1 x2 x3 x4 x5 = some Rr → Gd b D cI cZ cO σ s.heap H locs → lv_has ls 7 [(0, .ref (b + 132)), (1, .int x1), (2, .int x2), (3, .int x3), (4, .int x4), (5, .int x5)] → W p l e rmX12_askNext s m args below meth c H locs 0 0 (MQ below (QI b D cI cZ cO Rr) args s 0 0 (fun q => b ≤ q)) (F0 m 73 ls [])) {σ : Sg} {x1 : Int32} {x2 : Int32} {x3 : Int32} {x4 : Int32} {x6 : Int32} {y0 : Int32} {y1 : Int32} {H : Heap} {locs : List Loc} {ls : Array Slot} (hs : fX12_askNext_64 kh kx σ x1 x2 x3 x4 x6 y0 y1 = some Rr) (G : Gd b D cI cZ cO σ s.heap H locs) (hl : lv_has ls 7 [(0, .ref (b + 132)), (1, .int x1), (2, .int x2), (3, .int x3), (4, .int x4), (6, .int x6)]) : W p l e rmX12_askNext s m args below meth c H locs 0 0 (MQ below (QI b D cI cZ cO Rr) args s 0 0 (fun q => b ≤ q)) (F0 m 64 ls [.int y0, .int y1]) := by
  have hx := C.1
  have hb := C.2.1
  unfold fX12_askNext_64 at hs
  refine lv_iadd hx hb dX12_askNext_64 ?_
  refine topI hs (fun x5_7 hs => ?_)
  refine lv_istore (lv' := [(5, .int x5_7), (0, .ref (b + 132)), (1, .int x1), (2, .int x2), (3, .int x3), (4, .int x4), (6, .int x6)]) hx hb dX12_askNext_65 hl (by decide) rfl (fun ls hl => ?_)
  obtain ⟨x6_8, e_8, hs⟩ := ltE hs
  refine lv_iinc (v := x6_8) (lv' := [(6, .int x6_8), (5, .int x5_7), (0, .ref (b + 132)), (1, .int x1), (2, .int x2), (3, .int x3), (4, .int x4)]) hx hb dX12_askNext_67 hl (k := 6) rfl (by rw [e_8]; rfl) (by decide) rfl (fun ls hl => ?_)
  refine lv_goto (tgt := 27) hx hb dX12_askNext_70 (by decide) ?_
  exact hh _ _ _ _ _ _ _ _ _ _ hs G (lv_sub hl [2, 3, 4, 5, 6, 1, 0] rfl)
def fX12_askNext_63 (kh : Sg → Int32 → Int32 → Int32 → Int32 → Int32 → Int32 → Option (Int32 × Sg)) (kx : Sg → Int32 → Int32 → Int32 → Int32 → Int32 → Option (Int32 × Sg)) (σ : Sg) (x1 : Int32) (x2 : Int32) (x3 : Int32) (x4 : Int32) (x6 : Int32) (y0 : Int32) : Option (Int32 × Sg) :=
  fX12_askNext_64 kh kx σ x1 x2 x3 x4 x6 0 y0
set_option maxRecDepth 100000 in
set_option maxHeartbeats 4000000 in
theorem wX12_askNext_63 {p : Program} {l : Launch} {e : Env} {s : State} {m : MethodId} {args : Array Value} {below : List Frame} {meth : Method} {c : Code} {D : va_G} {cI cZ cO : ClassId} {b : Nat} (C : Cx p s m args meth c cX12_askNext RX12 7 (some .int) D cI cZ cO) {Rr : (Int32 × Sg)} {kh : Sg → Int32 → Int32 → Int32 → Int32 → Int32 → Int32 → Option (Int32 × Sg)} {kx : Sg → Int32 → Int32 → Int32 → Int32 → Int32 → Option (Int32 × Sg)} (hh : ∀ (σ : Sg) (x1 : Int32) (x2 : Int32) (x3 : Int32) (x4 : Int32) (x5 : Int32) (x6 : Int32) (H : Heap) (locs : List Loc) (ls : Array Slot), kh σ x1 x2 x3 x4 x5 x6 = some Rr → Gd b D cI cZ cO σ s.heap H locs → lv_has ls 7 [(0, .ref (b + 132)), (1, .int x1), (2, .int x2), (3, .int x3), (4, .int x4), (5, .int x5), (6, .int x6)] → W p l e rmX12_askNext s m args below meth c H locs 0 0 (MQ below (QI b D cI cZ cO Rr) args s 0 0 (fun q => b ≤ q)) (F0 m 27 ls [])) (hxx : ∀ (σ : Sg) (x1 : Int32) (x2 : Int32) (x3 : Int32) (x4 : Int32) (x5 : Int32) (H : Heap) (locs : List Loc) (ls : Array Slot), kx σ x1 x2 x3 x4 x5 = some Rr → Gd b D cI cZ cO σ s.heap H locs → lv_has ls 7 [(0, .ref (b + 132)), (1, .int x1), (2, .int x2), (3, .int x3), (4, .int x4), (5, .int x5)] → W p l e rmX12_askNext s m args below meth c H locs 0 0 (MQ below (QI b D cI cZ cO Rr) args s 0 0 (fun q => b ≤ q)) (F0 m 73 ls [])) {σ : Sg} {x1 : Int32} {x2 : Int32} {x3 : Int32} {x4 : Int32} {x6 : Int32} {y0 : Int32} {H : Heap} {locs : List Loc} {ls : Array Slot} (hs : fX12_askNext_63 kh kx σ x1 x2 x3 x4 x6 y0 = some Rr) (G : Gd b D cI cZ cO σ s.heap H locs) (hl : lv_has ls 7 [(0, .ref (b + 132)), (1, .int x1), (2, .int x2), (3, .int x3), (4, .int x4), (6, .int x6)]) : W p l e rmX12_askNext s m args below meth c H locs 0 0 (MQ below (QI b D cI cZ cO Rr) args s 0 0 (fun q => b ≤ q)) (F0 m 63 ls [.int y0]) := by
  have hx := C.1
  have hb := C.2.1
  unfold fX12_askNext_63 at hs
  refine lv_iconst (v := 0) hx hb dX12_askNext_63 (by decide) ?_
  exact wX12_askNext_64 C  hh hxx hs G (lv_sub hl [0, 1, 2, 3, 4, 5] rfl)
def fX12_askNext_27b (kh : Sg → Int32 → Int32 → Int32 → Int32 → Int32 → Int32 → Option (Int32 × Sg)) (kx : Sg → Int32 → Int32 → Int32 → Int32 → Int32 → Option (Int32 × Sg)) (σ : Sg) (x1 : Int32) (x2 : Int32) (x3 : Int32) (x4 : Int32) (x5 : Int32) (x6 : Int32) : Option (Int32 × Sg) :=
  (if ((1 : Int32) <<< ((σ 132 2) &&& 31)) ≤ x6 then kx σ x1 x2 x3 x4 x5 else bi (fX12_has σ x6 x4) (fun r_5 σ_5 => (if r_5 = 0 then fX12_askNext_63 kh kx σ_5 x1 x2 x3 x4 x6 x5 else bi (fX12_mayBe σ_5 x6) (fun r_9 σ_9 => (if r_9 = 0 then fX12_askNext_63 kh kx σ_9 x1 x2 x3 x4 x6 x5 else fX12_askNext_64 kh kx σ_9 x1 x2 x3 x4 x6 1 x5)))))
set_option maxRecDepth 100000 in
set_option maxHeartbeats 4000000 in
theorem wX12_askNext_27b {p : Program} {l : Launch} {e : Env} {s : State} {m : MethodId} {args : Array Value} {below : List Frame} {meth : Method} {c : Code} {D : va_G} {cI cZ cO : ClassId} {b : Nat} (C : Cx p s m args meth c cX12_askNext RX12 7 (some .int) D cI cZ cO) {Rr : (Int32 × Sg)} {kh : Sg → Int32 → Int32 → Int32 → Int32 → Int32 → Int32 → Option (Int32 × Sg)} {kx : Sg → Int32 → Int32 → Int32 → Int32 → Int32 → Option (Int32 × Sg)} (hh : ∀ (σ : Sg) (x1 : Int32) (x2 : Int32) (x3 : Int32) (x4 : Int32) (x5 : Int32) (x6 : Int32) (H : Heap) (locs : List Loc) (ls : Array Slot), kh σ x1 x2 x3 x4 x5 x6 = some Rr → Gd b D cI cZ cO σ s.heap H locs → lv_has ls 7 [(0, .ref (b + 132)), (1, .int x1), (2, .int x2), (3, .int x3), (4, .int x4), (5, .int x5), (6, .int x6)] → W p l e rmX12_askNext s m args below meth c H locs 0 0 (MQ below (QI b D cI cZ cO Rr) args s 0 0 (fun q => b ≤ q)) (F0 m 27 ls [])) (hxx : ∀ (σ : Sg) (x1 : Int32) (x2 : Int32) (x3 : Int32) (x4 : Int32) (x5 : Int32) (H : Heap) (locs : List Loc) (ls : Array Slot), kx σ x1 x2 x3 x4 x5 = some Rr → Gd b D cI cZ cO σ s.heap H locs → lv_has ls 7 [(0, .ref (b + 132)), (1, .int x1), (2, .int x2), (3, .int x3), (4, .int x4), (5, .int x5)] → W p l e rmX12_askNext s m args below meth c H locs 0 0 (MQ below (QI b D cI cZ cO Rr) args s 0 0 (fun q => b ≤ q)) (F0 m 73 ls [])) {σ : Sg} {x1 : Int32} {x2 : Int32} {x3 : Int32} {x4 : Int32} {x5 : Int32} {x6 : Int32} {H : Heap} {locs : List Loc} {ls : Array Slot} (hs : fX12_askNext_27b kh kx σ x1 x2 x3 x4 x5 x6 = some Rr) (G : Gd b D cI cZ cO σ s.heap H locs) (hl : lv_has ls 7 [(0, .ref (b + 132)), (1, .int x1), (2, .int x2), (3, .int x3), (4, .int x4), (5, .int x5), (6, .int x6)]) : W p l e rmX12_askNext s m args below meth c H locs 0 0 (MQ below (QI b D cI cZ cO Rr) args s 0 0 (fun q => b ≤ q)) (F0 m 27 ls []) := by
  have hx := C.1
  have hb := C.2.1
  unfold fX12_askNext_27b at hs
  refine lv_iload hx hb dX12_askNext_27 (lv_at hl 6 rfl) ?_
  refine lv_iconst (v := 1) hx hb dX12_askNext_29 (by decide) ?_
  refine lv_aload_n hx hb dX12_askNext_30 rfl (lv_at hl 0 rfl) ?_
  refine gf_X12_79 C G kd_132 dX12_askNext_31 ?_
  refine lv_ishl hx hb dX12_askNext_34 ?_
  refine lv_icmp_ge (tgt := 73) hx hb dX12_askNext_35 (by decide) (fun c_4 => ?_) (fun c_4 => ?_)
  · replace hs := ifT c_4 hs
    exact hxx _ _ _ _ _ _ _ _ _ hs G (lv_sub hl [0, 1, 2, 3, 4, 5] rfl)
  · replace hs := ifF c_4 hs
    refine lv_iload hx hb dX12_askNext_38 (lv_at hl 5 rfl) ?_
    refine lv_iload hx hb dX12_askNext_40 (lv_at hl 6 rfl) ?_
    refine lv_iload hx hb dX12_askNext_42 (lv_at hl 4 rfl) ?_
    obtain ⟨r_5, σ_5, hc, hs⟩ := biE hs
    refine callSI (ar := 2) (As := [.int x6, .int x4]) (rest := [.int x5]) C G hl.1 (ctX12_has _  hc) ⟨wd_1069, wd_1070, wd_81, wd_1071⟩ (by decide +kernel) rfl ⟨rfl, rfl⟩ ⟨Nat.le_of_ble_eq_true rfl, Nat.le_of_ble_eq_true rfl⟩ (Nat.le_of_ble_eq_true rfl) ⟨Nat.le_of_ble_eq_true rfl, Nat.le_of_ble_eq_true rfl⟩ dX12_askNext_44 rfl (fun H locs G => ?_)
    refine lv_if_eq (tgt := 63) hx hb dX12_askNext_47 (by decide) (fun c_6 => ?_) (fun c_6 => ?_)
    · replace hs := ifT c_6 hs
      exact wX12_askNext_63 C  hh hxx hs G (lv_sub hl [0, 1, 2, 3, 4, 6] rfl)
    · replace hs := ifF c_6 hs
      refine lv_aload_n hx hb dX12_askNext_50 rfl (lv_at hl 0 rfl) ?_
      refine lv_iload hx hb dX12_askNext_51 (lv_at hl 6 rfl) ?_
      obtain ⟨r_9, σ_9, hc, hs⟩ := biE hs
      refine callVI (ar := 1) (As := [.int x6]) (rest := [.int x5]) C G hl.1 (ctX12_mayBe _  hc) ⟨wd_1087, wd_1089, wd_44, wd_81, wd_1090⟩ (by decide +kernel) rfl ⟨rfl, rfl⟩ ⟨Nat.le_of_ble_eq_true rfl, Nat.le_of_ble_eq_true rfl⟩ (kd_lt kd_132 (by decide)) (ent_12 b cI cZ cO _ kd_132) rfl (Nat.le_of_ble_eq_true rfl) ⟨Nat.le_of_ble_eq_true rfl, Nat.le_of_ble_eq_true rfl⟩ dX12_askNext_53 rfl (fun H locs G => ?_)
      refine lv_if_eq (tgt := 63) hx hb dX12_askNext_56 (by decide) (fun c_10 => ?_) (fun c_10 => ?_)
      · replace hs := ifT c_10 hs
        exact wX12_askNext_63 C  hh hxx hs G (lv_sub hl [0, 1, 2, 3, 4, 6] rfl)
      · replace hs := ifF c_10 hs
        refine lv_iconst (v := 1) hx hb dX12_askNext_59 (by decide) ?_
        refine lv_goto (tgt := 64) hx hb dX12_askNext_60 (by decide) ?_
        exact wX12_askNext_64 C  hh hxx hs G (lv_sub hl [0, 1, 2, 3, 4, 6] rfl)
def fX12_askNext_27 : Nat → (Sg → Int32 → Int32 → Int32 → Int32 → Int32 → Option (Int32 × Sg)) → Sg → Int32 → Int32 → Int32 → Int32 → Int32 → Int32 → Option (Int32 × Sg)
  | 0, _, _, _, _, _, _, _, _ => none
  | fu + 1, kx, σ, x1, x2, x3, x4, x5, x6 => fX12_askNext_27b (fX12_askNext_27 fu kx) kx σ x1 x2 x3 x4 x5 x6
theorem fX12_askNext_27_s (fu : Nat) (kx : Sg → Int32 → Int32 → Int32 → Int32 → Int32 → Option (Int32 × Sg)) (σ : Sg) (x1 : Int32) (x2 : Int32) (x3 : Int32) (x4 : Int32) (x5 : Int32) (x6 : Int32) : fX12_askNext_27 (fu + 1) kx σ x1 x2 x3 x4 x5 x6 = fX12_askNext_27b (fX12_askNext_27 fu kx) kx σ x1 x2 x3 x4 x5 x6 := by rw [fX12_askNext_27]
theorem wX12_askNext_27 {p : Program} {l : Launch} {e : Env} {s : State} {m : MethodId} {args : Array Value} {below : List Frame} {meth : Method} {c : Code} {D : va_G} {cI cZ cO : ClassId} {b : Nat} (C : Cx p s m args meth c cX12_askNext RX12 7 (some .int) D cI cZ cO) {Rr : (Int32 × Sg)} {kx : Sg → Int32 → Int32 → Int32 → Int32 → Int32 → Option (Int32 × Sg)} (hxx : ∀ (σ : Sg) (x1 : Int32) (x2 : Int32) (x3 : Int32) (x4 : Int32) (x5 : Int32) (H : Heap) (locs : List Loc) (ls : Array Slot), kx σ x1 x2 x3 x4 x5 = some Rr → Gd b D cI cZ cO σ s.heap H locs → lv_has ls 7 [(0, .ref (b + 132)), (1, .int x1), (2, .int x2), (3, .int x3), (4, .int x4), (5, .int x5)] → W p l e rmX12_askNext s m args below meth c H locs 0 0 (MQ below (QI b D cI cZ cO Rr) args s 0 0 (fun q => b ≤ q)) (F0 m 73 ls [])) : ∀ (fu : Nat) (σ : Sg) (x1 : Int32) (x2 : Int32) (x3 : Int32) (x4 : Int32) (x5 : Int32) (x6 : Int32) (H : Heap) (locs : List Loc) (ls : Array Slot), fX12_askNext_27 fu kx σ x1 x2 x3 x4 x5 x6 = some Rr → Gd b D cI cZ cO σ s.heap H locs → lv_has ls 7 [(0, .ref (b + 132)), (1, .int x1), (2, .int x2), (3, .int x3), (4, .int x4), (5, .int x5), (6, .int x6)] → W p l e rmX12_askNext s m args below meth c H locs 0 0 (MQ below (QI b D cI cZ cO Rr) args s 0 0 (fun q => b ≤ q)) (F0 m 27 ls []) := by
  intro fu
  induction fu with
  | zero => intro σ x1 x2 x3 x4 x5 x6 H locs ls hs; cases hs
  | succ fu ih =>
    intro σ x1 x2 x3 x4 x5 x6 H locs ls hs G hl
    exact wX12_askNext_27b C (fun σ x1 x2 x3 x4 x5 x6 H locs ls hs G hl => ih σ x1 x2 x3 x4 x5 x6 H locs ls hs G hl) hxx hs G hl
def fX12_askNext_118 (kh : Sg → Int32 → Int32 → Int32 → Int32 → Option (Int32 × Sg)) (kx : Sg → Int32 → Option (Int32 × Sg)) (σ : Sg) (x1 : Int32) (x2 : Int32) (x4 : Int32) (y0 : Int32) : Option (Int32 × Sg) :=
  lt (x4 + 1) (fun x4_15 => kh σ x1 x2 y0 x4_15)
set_option maxRecDepth 100000 in
set_option maxHeartbeats 4000000 in
theorem wX12_askNext_118 {p : Program} {l : Launch} {e : Env} {s : State} {m : MethodId} {args : Array Value} {below : List Frame} {meth : Method} {c : Code} {D : va_G} {cI cZ cO : ClassId} {b : Nat} (C : Cx p s m args meth c cX12_askNext RX12 7 (some .int) D cI cZ cO) {Rr : (Int32 × Sg)} {kh : Sg → Int32 → Int32 → Int32 → Int32 → Option (Int32 × Sg)} {kx : Sg → Int32 → Option (Int32 × Sg)} (hh : ∀ (σ : Sg) (x1 : Int32) (x2 : Int32) (x3 : Int32) (x4 : Int32) (H : Heap) (locs : List Loc) (ls : Array Slot), kh σ x1 x2 x3 x4 = some Rr → Gd b D cI cZ cO σ s.heap H locs → lv_has ls 7 [(0, .ref (b + 132)), (1, .int x1), (2, .int x2), (3, .int x3), (4, .int x4)] → W p l e rmX12_askNext s m args below meth c H locs 0 0 (MQ below (QI b D cI cZ cO Rr) args s 0 0 (fun q => b ≤ q)) (F0 m 12 ls [])) (hxx : ∀ (σ : Sg) (x2 : Int32) (H : Heap) (locs : List Loc) (ls : Array Slot), kx σ x2 = some Rr → Gd b D cI cZ cO σ s.heap H locs → lv_has ls 7 [(2, .int x2)] → W p l e rmX12_askNext s m args below meth c H locs 0 0 (MQ below (QI b D cI cZ cO Rr) args s 0 0 (fun q => b ≤ q)) (F0 m 125 ls [])) {σ : Sg} {x1 : Int32} {x2 : Int32} {x4 : Int32} {y0 : Int32} {H : Heap} {locs : List Loc} {ls : Array Slot} (hs : fX12_askNext_118 kh kx σ x1 x2 x4 y0 = some Rr) (G : Gd b D cI cZ cO σ s.heap H locs) (hl : lv_has ls 7 [(0, .ref (b + 132)), (1, .int x1), (2, .int x2), (4, .int x4)]) : W p l e rmX12_askNext s m args below meth c H locs 0 0 (MQ below (QI b D cI cZ cO Rr) args s 0 0 (fun q => b ≤ q)) (F0 m 118 ls [.int y0]) := by
  have hx := C.1
  have hb := C.2.1
  unfold fX12_askNext_118 at hs
  refine lv_istore_n (lv' := [(3, .int y0), (0, .ref (b + 132)), (1, .int x1), (2, .int x2), (4, .int x4)]) hx hb dX12_askNext_118 rfl hl (by decide) rfl (fun ls hl => ?_)
  obtain ⟨x4_15, e_15, hs⟩ := ltE hs
  refine lv_iinc (v := x4_15) (lv' := [(4, .int x4_15), (3, .int y0), (0, .ref (b + 132)), (1, .int x1), (2, .int x2)]) hx hb dX12_askNext_119 hl (k := 4) rfl (by rw [e_15]; rfl) (by decide) rfl (fun ls hl => ?_)
  refine lv_goto (tgt := 12) hx hb dX12_askNext_122 (by decide) ?_
  exact hh _ _ _ _ _ _ _ _ hs G (lv_sub hl [2, 3, 4, 1, 0] rfl)
def fX12_askNext_105 (kh : Sg → Int32 → Int32 → Int32 → Int32 → Option (Int32 × Sg)) (kx : Sg → Int32 → Option (Int32 × Sg)) (σ : Sg) (x1 : Int32) (x3 : Int32) (x4 : Int32) (x6 : Int32) (y0 : Int32) : Option (Int32 × Sg) :=
  (if x3 ≤ x6 then fX12_askNext_118 kh kx σ x1 y0 x4 x3 else fX12_askNext_118 kh kx σ x1 y0 x4 x6)
set_option maxRecDepth 100000 in
set_option maxHeartbeats 4000000 in
theorem wX12_askNext_105 {p : Program} {l : Launch} {e : Env} {s : State} {m : MethodId} {args : Array Value} {below : List Frame} {meth : Method} {c : Code} {D : va_G} {cI cZ cO : ClassId} {b : Nat} (C : Cx p s m args meth c cX12_askNext RX12 7 (some .int) D cI cZ cO) {Rr : (Int32 × Sg)} {kh : Sg → Int32 → Int32 → Int32 → Int32 → Option (Int32 × Sg)} {kx : Sg → Int32 → Option (Int32 × Sg)} (hh : ∀ (σ : Sg) (x1 : Int32) (x2 : Int32) (x3 : Int32) (x4 : Int32) (H : Heap) (locs : List Loc) (ls : Array Slot), kh σ x1 x2 x3 x4 = some Rr → Gd b D cI cZ cO σ s.heap H locs → lv_has ls 7 [(0, .ref (b + 132)), (1, .int x1), (2, .int x2), (3, .int x3), (4, .int x4)] → W p l e rmX12_askNext s m args below meth c H locs 0 0 (MQ below (QI b D cI cZ cO Rr) args s 0 0 (fun q => b ≤ q)) (F0 m 12 ls [])) (hxx : ∀ (σ : Sg) (x2 : Int32) (H : Heap) (locs : List Loc) (ls : Array Slot), kx σ x2 = some Rr → Gd b D cI cZ cO σ s.heap H locs → lv_has ls 7 [(2, .int x2)] → W p l e rmX12_askNext s m args below meth c H locs 0 0 (MQ below (QI b D cI cZ cO Rr) args s 0 0 (fun q => b ≤ q)) (F0 m 125 ls [])) {σ : Sg} {x1 : Int32} {x3 : Int32} {x4 : Int32} {x6 : Int32} {y0 : Int32} {H : Heap} {locs : List Loc} {ls : Array Slot} (hs : fX12_askNext_105 kh kx σ x1 x3 x4 x6 y0 = some Rr) (G : Gd b D cI cZ cO σ s.heap H locs) (hl : lv_has ls 7 [(0, .ref (b + 132)), (1, .int x1), (3, .int x3), (4, .int x4), (6, .int x6)]) : W p l e rmX12_askNext s m args below meth c H locs 0 0 (MQ below (QI b D cI cZ cO Rr) args s 0 0 (fun q => b ≤ q)) (F0 m 105 ls [.int y0]) := by
  have hx := C.1
  have hb := C.2.1
  unfold fX12_askNext_105 at hs
  refine lv_istore_n (lv' := [(2, .int y0), (0, .ref (b + 132)), (1, .int x1), (3, .int x3), (4, .int x4), (6, .int x6)]) hx hb dX12_askNext_105 rfl hl (by decide) rfl (fun ls hl => ?_)
  refine lv_iload hx hb dX12_askNext_106 (lv_at hl 5 rfl) ?_
  refine lv_iload_n hx hb dX12_askNext_108 rfl (lv_at hl 3 rfl) ?_
  refine lv_icmp_ge (tgt := 117) hx hb dX12_askNext_109 (by decide) (fun c_14 => ?_) (fun c_14 => ?_)
  · replace hs := ifT c_14 hs
    refine lv_iload_n hx hb dX12_askNext_117 rfl (lv_at hl 3 rfl) ?_
    exact wX12_askNext_118 C  hh hxx hs G (lv_sub hl [1, 2, 0, 4] rfl)
  · replace hs := ifF c_14 hs
    refine lv_iload hx hb dX12_askNext_112 (lv_at hl 5 rfl) ?_
    refine lv_goto (tgt := 118) hx hb dX12_askNext_114 (by decide) ?_
    exact wX12_askNext_118 C  hh hxx hs G (lv_sub hl [1, 2, 0, 4] rfl)
def fX12_askNext_91 (kh : Sg → Int32 → Int32 → Int32 → Int32 → Option (Int32 × Sg)) (kx : Sg → Int32 → Option (Int32 × Sg)) (σ : Sg) (x1 : Int32) (x2 : Int32) (x3 : Int32) (x4 : Int32) (y0 : Int32) : Option (Int32 × Sg) :=
  (if x3 ≤ y0 then fX12_askNext_105 kh kx σ x1 x3 x4 y0 x2 else fX12_askNext_105 kh kx σ x1 x3 x4 y0 x4)
set_option maxRecDepth 100000 in
set_option maxHeartbeats 4000000 in
theorem wX12_askNext_91 {p : Program} {l : Launch} {e : Env} {s : State} {m : MethodId} {args : Array Value} {below : List Frame} {meth : Method} {c : Code} {D : va_G} {cI cZ cO : ClassId} {b : Nat} (C : Cx p s m args meth c cX12_askNext RX12 7 (some .int) D cI cZ cO) {Rr : (Int32 × Sg)} {kh : Sg → Int32 → Int32 → Int32 → Int32 → Option (Int32 × Sg)} {kx : Sg → Int32 → Option (Int32 × Sg)} (hh : ∀ (σ : Sg) (x1 : Int32) (x2 : Int32) (x3 : Int32) (x4 : Int32) (H : Heap) (locs : List Loc) (ls : Array Slot), kh σ x1 x2 x3 x4 = some Rr → Gd b D cI cZ cO σ s.heap H locs → lv_has ls 7 [(0, .ref (b + 132)), (1, .int x1), (2, .int x2), (3, .int x3), (4, .int x4)] → W p l e rmX12_askNext s m args below meth c H locs 0 0 (MQ below (QI b D cI cZ cO Rr) args s 0 0 (fun q => b ≤ q)) (F0 m 12 ls [])) (hxx : ∀ (σ : Sg) (x2 : Int32) (H : Heap) (locs : List Loc) (ls : Array Slot), kx σ x2 = some Rr → Gd b D cI cZ cO σ s.heap H locs → lv_has ls 7 [(2, .int x2)] → W p l e rmX12_askNext s m args below meth c H locs 0 0 (MQ below (QI b D cI cZ cO Rr) args s 0 0 (fun q => b ≤ q)) (F0 m 125 ls [])) {σ : Sg} {x1 : Int32} {x2 : Int32} {x3 : Int32} {x4 : Int32} {y0 : Int32} {H : Heap} {locs : List Loc} {ls : Array Slot} (hs : fX12_askNext_91 kh kx σ x1 x2 x3 x4 y0 = some Rr) (G : Gd b D cI cZ cO σ s.heap H locs) (hl : lv_has ls 7 [(0, .ref (b + 132)), (1, .int x1), (2, .int x2), (3, .int x3), (4, .int x4)]) : W p l e rmX12_askNext s m args below meth c H locs 0 0 (MQ below (QI b D cI cZ cO Rr) args s 0 0 (fun q => b ≤ q)) (F0 m 91 ls [.int y0]) := by
  have hx := C.1
  have hb := C.2.1
  unfold fX12_askNext_91 at hs
  refine lv_istore (lv' := [(6, .int y0), (0, .ref (b + 132)), (1, .int x1), (2, .int x2), (3, .int x3), (4, .int x4)]) hx hb dX12_askNext_91 hl (by decide) rfl (fun ls hl => ?_)
  refine lv_iload hx hb dX12_askNext_93 (lv_at hl 0 rfl) ?_
  refine lv_iload_n hx hb dX12_askNext_95 rfl (lv_at hl 4 rfl) ?_
  refine lv_icmp_ge (tgt := 104) hx hb dX12_askNext_96 (by decide) (fun c_13 => ?_) (fun c_13 => ?_)
  · replace hs := ifT c_13 hs
    refine lv_iload_n hx hb dX12_askNext_104 rfl (lv_at hl 3 rfl) ?_
    exact wX12_askNext_105 C  hh hxx hs G (lv_sub hl [1, 2, 4, 5, 0] rfl)
  · replace hs := ifF c_13 hs
    refine lv_iload hx hb dX12_askNext_99 (lv_at hl 5 rfl) ?_
    refine lv_goto (tgt := 105) hx hb dX12_askNext_101 (by decide) ?_
    exact wX12_askNext_105 C  hh hxx hs G (lv_sub hl [1, 2, 4, 5, 0] rfl)
def fX12_askNext_12b (kh : Sg → Int32 → Int32 → Int32 → Int32 → Option (Int32 × Sg)) (kx : Sg → Int32 → Option (Int32 × Sg)) (σ : Sg) (x1 : Int32) (x2 : Int32) (x3 : Int32) (x4 : Int32) : Option (Int32 × Sg) :=
  (if (σ 132 2) ≤ x4 then kx σ x2 else fX12_askNext_27 FU (fun σ_11 x1_11 x2_11 x3_11 x4_11 x5_11 => (if x5_11 ≤ (x1_11 - x5_11) then fX12_askNext_91 kh kx σ_11 x1_11 x2_11 x3_11 x4_11 (x1_11 - x5_11) else fX12_askNext_91 kh kx σ_11 x1_11 x2_11 x3_11 x4_11 x5_11)) σ x1 x2 x3 x4 0 0)
set_option maxRecDepth 100000 in
set_option maxHeartbeats 4000000 in
theorem wX12_askNext_12b {p : Program} {l : Launch} {e : Env} {s : State} {m : MethodId} {args : Array Value} {below : List Frame} {meth : Method} {c : Code} {D : va_G} {cI cZ cO : ClassId} {b : Nat} (C : Cx p s m args meth c cX12_askNext RX12 7 (some .int) D cI cZ cO) {Rr : (Int32 × Sg)} {kh : Sg → Int32 → Int32 → Int32 → Int32 → Option (Int32 × Sg)} {kx : Sg → Int32 → Option (Int32 × Sg)} (hh : ∀ (σ : Sg) (x1 : Int32) (x2 : Int32) (x3 : Int32) (x4 : Int32) (H : Heap) (locs : List Loc) (ls : Array Slot), kh σ x1 x2 x3 x4 = some Rr → Gd b D cI cZ cO σ s.heap H locs → lv_has ls 7 [(0, .ref (b + 132)), (1, .int x1), (2, .int x2), (3, .int x3), (4, .int x4)] → W p l e rmX12_askNext s m args below meth c H locs 0 0 (MQ below (QI b D cI cZ cO Rr) args s 0 0 (fun q => b ≤ q)) (F0 m 12 ls [])) (hxx : ∀ (σ : Sg) (x2 : Int32) (H : Heap) (locs : List Loc) (ls : Array Slot), kx σ x2 = some Rr → Gd b D cI cZ cO σ s.heap H locs → lv_has ls 7 [(2, .int x2)] → W p l e rmX12_askNext s m args below meth c H locs 0 0 (MQ below (QI b D cI cZ cO Rr) args s 0 0 (fun q => b ≤ q)) (F0 m 125 ls [])) {σ : Sg} {x1 : Int32} {x2 : Int32} {x3 : Int32} {x4 : Int32} {H : Heap} {locs : List Loc} {ls : Array Slot} (hs : fX12_askNext_12b kh kx σ x1 x2 x3 x4 = some Rr) (G : Gd b D cI cZ cO σ s.heap H locs) (hl : lv_has ls 7 [(0, .ref (b + 132)), (1, .int x1), (2, .int x2), (3, .int x3), (4, .int x4)]) : W p l e rmX12_askNext s m args below meth c H locs 0 0 (MQ below (QI b D cI cZ cO Rr) args s 0 0 (fun q => b ≤ q)) (F0 m 12 ls []) := by
  have hx := C.1
  have hb := C.2.1
  unfold fX12_askNext_12b at hs
  refine lv_iload hx hb dX12_askNext_12 (lv_at hl 4 rfl) ?_
  refine lv_aload_n hx hb dX12_askNext_14 rfl (lv_at hl 0 rfl) ?_
  refine gf_X12_79 C G kd_132 dX12_askNext_15 ?_
  refine lv_icmp_ge (tgt := 125) hx hb dX12_askNext_18 (by decide) (fun c_3 => ?_) (fun c_3 => ?_)
  · replace hs := ifT c_3 hs
    exact hxx _ _ _ _ _ hs G (lv_sub hl [2] rfl)
  · replace hs := ifF c_3 hs
    refine lv_iconst (v := 0) hx hb dX12_askNext_21 (by decide) ?_
    refine lv_istore (lv' := [(5, .int 0), (0, .ref (b + 132)), (1, .int x1), (2, .int x2), (3, .int x3), (4, .int x4)]) hx hb dX12_askNext_22 hl (by decide) rfl (fun ls hl => ?_)
    refine lv_iconst (v := 0) hx hb dX12_askNext_24 (by decide) ?_
    refine lv_istore (lv' := [(6, .int 0), (5, .int 0), (0, .ref (b + 132)), (1, .int x1), (2, .int x2), (3, .int x3), (4, .int x4)]) hx hb dX12_askNext_25 hl (by decide) rfl (fun ls hl => ?_)
    refine wX12_askNext_27 C (fun σ_11 x1_11 x2_11 x3_11 x4_11 x5_11 H locs ls hs G hl => ?_) FU _ _ _ _ _ _ _ _ _ _ hs G (lv_sub hl [2, 3, 4, 5, 6, 1, 0] rfl)
    refine lv_iload hx hb dX12_askNext_73 (lv_at hl 5 rfl) ?_
    refine lv_iload_n hx hb dX12_askNext_75 rfl (lv_at hl 1 rfl) ?_
    refine lv_iload hx hb dX12_askNext_76 (lv_at hl 5 rfl) ?_
    refine lv_isub hx hb dX12_askNext_78 ?_
    refine lv_icmp_le (tgt := 87) hx hb dX12_askNext_79 (by decide) (fun c_12 => ?_) (fun c_12 => ?_)
    · replace hs := ifT c_12 hs
      refine lv_iload_n hx hb dX12_askNext_87 rfl (lv_at hl 1 rfl) ?_
      refine lv_iload hx hb dX12_askNext_88 (lv_at hl 5 rfl) ?_
      refine lv_isub hx hb dX12_askNext_90 ?_
      exact wX12_askNext_91 C  hh hxx hs G (lv_sub hl [0, 1, 2, 3, 4] rfl)
    · replace hs := ifF c_12 hs
      refine lv_iload hx hb dX12_askNext_82 (lv_at hl 5 rfl) ?_
      refine lv_goto (tgt := 91) hx hb dX12_askNext_84 (by decide) ?_
      exact wX12_askNext_91 C  hh hxx hs G (lv_sub hl [0, 1, 2, 3, 4] rfl)
def fX12_askNext_12 : Nat → (Sg → Int32 → Option (Int32 × Sg)) → Sg → Int32 → Int32 → Int32 → Int32 → Option (Int32 × Sg)
  | 0, _, _, _, _, _, _ => none
  | fu + 1, kx, σ, x1, x2, x3, x4 => fX12_askNext_12b (fX12_askNext_12 fu kx) kx σ x1 x2 x3 x4
theorem fX12_askNext_12_s (fu : Nat) (kx : Sg → Int32 → Option (Int32 × Sg)) (σ : Sg) (x1 : Int32) (x2 : Int32) (x3 : Int32) (x4 : Int32) : fX12_askNext_12 (fu + 1) kx σ x1 x2 x3 x4 = fX12_askNext_12b (fX12_askNext_12 fu kx) kx σ x1 x2 x3 x4 := by rw [fX12_askNext_12]
theorem wX12_askNext_12 {p : Program} {l : Launch} {e : Env} {s : State} {m : MethodId} {args : Array Value} {below : List Frame} {meth : Method} {c : Code} {D : va_G} {cI cZ cO : ClassId} {b : Nat} (C : Cx p s m args meth c cX12_askNext RX12 7 (some .int) D cI cZ cO) {Rr : (Int32 × Sg)} {kx : Sg → Int32 → Option (Int32 × Sg)} (hxx : ∀ (σ : Sg) (x2 : Int32) (H : Heap) (locs : List Loc) (ls : Array Slot), kx σ x2 = some Rr → Gd b D cI cZ cO σ s.heap H locs → lv_has ls 7 [(2, .int x2)] → W p l e rmX12_askNext s m args below meth c H locs 0 0 (MQ below (QI b D cI cZ cO Rr) args s 0 0 (fun q => b ≤ q)) (F0 m 125 ls [])) : ∀ (fu : Nat) (σ : Sg) (x1 : Int32) (x2 : Int32) (x3 : Int32) (x4 : Int32) (H : Heap) (locs : List Loc) (ls : Array Slot), fX12_askNext_12 fu kx σ x1 x2 x3 x4 = some Rr → Gd b D cI cZ cO σ s.heap H locs → lv_has ls 7 [(0, .ref (b + 132)), (1, .int x1), (2, .int x2), (3, .int x3), (4, .int x4)] → W p l e rmX12_askNext s m args below meth c H locs 0 0 (MQ below (QI b D cI cZ cO Rr) args s 0 0 (fun q => b ≤ q)) (F0 m 12 ls []) := by
  intro fu
  induction fu with
  | zero => intro σ x1 x2 x3 x4 H locs ls hs; cases hs
  | succ fu ih =>
    intro σ x1 x2 x3 x4 H locs ls hs G hl
    exact wX12_askNext_12b C (fun σ x1 x2 x3 x4 H locs ls hs G hl => ih σ x1 x2 x3 x4 H locs ls hs G hl) hxx hs G hl
def fX12_askNext (σ : Sg) : Option (Int32 × Sg) :=
  bi (fX12_manyWent σ) (fun r_1 σ_1 => lt (-1) (fun x2_2 => fX12_askNext_12 FU (fun σ_16 x2_16 => some (x2_16, σ_16)) σ_1 r_1 x2_2 r_1 0))
set_option maxRecDepth 100000 in
set_option maxHeartbeats 4000000 in
theorem ctX12_askNext (l : Launch) {D : va_G} {cI cZ cO : ClassId} {b : Nat} {σ : Sg} {Rr : (Int32 × Sg)} (hs : fX12_askNext σ = some Rr) : MI l yX12_askNext cX12_askNext 7 (some .int) rmX12_askNext [.ref (b + 132)] b D cI cZ cO σ Rr := by
  unfold fX12_askNext at hs
  refine metI (by decide +kernel) (Nat.le_of_ble_eq_true rfl) (fun p e s m below meth c ls C G hl => ?_)
  have C : Cx p s m _ meth c cX12_askNext RX12 7 (some .int) D cI cZ cO := C
  have hx := C.1
  have hb := C.2.1
  have hl : lv_has ls 7 [(0, .ref (b + 132))] := hl
  refine lv_aload_n hx hb dX12_askNext_0 rfl (lv_at hl 0 rfl) ?_
  obtain ⟨r_1, σ_1, hc, hs⟩ := biE hs
  refine callVI (ar := 0) (As := []) (rest := []) C G hl.1 (ctX12_manyWent _  hc) ⟨wd_1083, wd_1085, wd_43, wd_81, wd_1086⟩ (by decide +kernel) rfl ⟨rfl, rfl⟩ ⟨Nat.le_of_ble_eq_true rfl, Nat.le_of_ble_eq_true rfl⟩ (kd_lt kd_132 (by decide)) (ent_12 b cI cZ cO _ kd_132) rfl (Nat.le_of_ble_eq_true rfl) ⟨Nat.le_of_ble_eq_true rfl, Nat.le_of_ble_eq_true rfl⟩ dX12_askNext_1 rfl (fun H locs G => ?_)
  refine lv_istore_n (lv' := [(1, .int r_1), (0, .ref (b + 132))]) hx hb dX12_askNext_4 rfl hl (by decide) rfl (fun ls hl => ?_)
  refine lv_iconst (v := (-1)) hx hb dX12_askNext_5 (by decide) ?_
  refine topI hs (fun x2_2 hs => ?_)
  refine lv_istore_n (lv' := [(2, .int x2_2), (1, .int r_1), (0, .ref (b + 132))]) hx hb dX12_askNext_6 rfl hl (by decide) rfl (fun ls hl => ?_)
  refine lv_iload_n hx hb dX12_askNext_7 rfl (lv_at hl 1 rfl) ?_
  refine lv_istore_n (lv' := [(3, .int r_1), (2, .int x2_2), (1, .int r_1), (0, .ref (b + 132))]) hx hb dX12_askNext_8 rfl hl (by decide) rfl (fun ls hl => ?_)
  refine lv_iconst (v := 0) hx hb dX12_askNext_9 (by decide) ?_
  refine lv_istore (lv' := [(4, .int 0), (3, .int r_1), (2, .int x2_2), (1, .int r_1), (0, .ref (b + 132))]) hx hb dX12_askNext_10 hl (by decide) rfl (fun ls hl => ?_)
  refine wX12_askNext_12 C (fun σ_16 x2_16 H locs ls hs G hl => ?_) FU _ _ _ _ _ _ _ _ hs G (lv_sub hl [4, 3, 2, 1, 0] rfl)
  refine lv_iload_n hx hb dX12_askNext_125 rfl (lv_at hl 0 rfl) ?_
  exact retI C G hs dX12_askNext_126
-- X12_told
def rmX12_told : Room := { frames := 4, cells := 0, slots := 0, locals := 94 }
def fX12_told (σ : Sg) (x1 : Int32) : Option (Int32 × Sg) :=
  (if x1 = 0 then (if inb 0 60 then some ((σ 136 (0 : Int32).toNatClampNeg), σ) else none) else (if x1 = 1 then some ((σ 132 1), σ) else (if x1 = 2 then some ((σ 132 2), σ) else (if x1 = 3 then some ((σ 132 3), σ) else (if x1 = 4 then some ((σ 132 10), σ) else (if x1 = 5 then (if inb 1 60 then some ((σ 136 (1 : Int32).toNatClampNeg), σ) else none) else (if x1 = 6 then (if inb 2 60 then some ((σ 136 (2 : Int32).toNatClampNeg), σ) else none) else (if x1 = 7 then bi (fX12_toldFate σ) (fun r_5 σ_5 => some (r_5, σ_5)) else (if x1 = 8 then (if inb 4 60 then some (((((1 : Int32) <<< ((σ 132 3) &&& 31)) - 1) &&& ((σ 136 (4 : Int32).toNatClampNeg) ^^^ (-1))), σ) else none) else (if x1 = 9 then (if inb 3 60 then some ((σ 136 (3 : Int32).toNatClampNeg), σ) else none) else (if x1 = 10 then bi (fX12_borne σ) (fun r_8 σ_8 => some (r_8, σ_8)) else (if x1 = 11 then bi (fX12_madeUp σ) (fun r_9 σ_9 => some (r_9, σ_9)) else (if x1 = 12 then bi (fX12_worst σ) (fun r_10 σ_10 => some (r_10, σ_10)) else (if x1 = 13 then some ((σ 132 28), σ) else (if x1 = 14 then bi (fX12_manyWent σ) (fun r_11 σ_11 => some (r_11, σ_11)) else (if x1 = 15 then bi (fX12_inEach σ) (fun r_12 σ_12 => some (r_12, σ_12)) else (if x1 = 16 then bi (fX12_askNext σ) (fun r_13 σ_13 => some (r_13, σ_13)) else (if x1 = 17 then some ((σ 132 31), σ) else (if x1 = 18 then some ((σ 132 25), σ) else some ((-1000000002), σ))))))))))))))))))))
set_option maxRecDepth 100000 in
set_option maxHeartbeats 4000000 in
theorem ctX12_told (l : Launch) {D : va_G} {cI cZ cO : ClassId} {b : Nat} {σ : Sg} {x1 : Int32} {Rr : (Int32 × Sg)} (hs : fX12_told σ x1 = some Rr) : MI l yX12_told cX12_told 2 (some .int) rmX12_told [.ref (b + 132), .int x1] b D cI cZ cO σ Rr := by
  unfold fX12_told at hs
  refine metI (by decide +kernel) (Nat.le_of_ble_eq_true rfl) (fun p e s m below meth c ls C G hl => ?_)
  have C : Cx p s m _ meth c cX12_told RX12 2 (some .int) D cI cZ cO := C
  have hx := C.1
  have hb := C.2.1
  have hl : lv_has ls 2 [(0, .ref (b + 132)), (1, .int x1)] := hl
  refine lv_iload_n hx hb dX12_told_0 rfl (lv_at hl 1 rfl) ?_
  by_cases c_1_0 : x1 = 0
  · replace hs := ifT c_1_0 hs
    refine lv_tableIn (tgt := 92) hx hb dX12_told_1 (by rw [c_1_0]; decide) (by rw [c_1_0]; decide) (by rw [c_1_0]; rfl) (by decide) ?_
    refine lv_aload_n hx hb dX12_told_92 rfl (lv_at hl 0 rfl) ?_
    refine gf_X12_19 C G kd_132 (n' := 136) rfl dX12_told_93 ?_
    refine lv_iconst (v := 0) hx hb dX12_told_96 (by decide) ?_
    obtain ⟨g_2, hs⟩ := gdE hs
    refine m_iald C G kd_136 ln_136 g_2 dX12_told_97 ?_
    exact retI C G hs dX12_told_98
  · replace hs := ifF c_1_0 hs
    by_cases c_1_1 : x1 = 1
    · replace hs := ifT c_1_1 hs
      refine lv_tableIn (tgt := 99) hx hb dX12_told_1 (by rw [c_1_1]; decide) (by rw [c_1_1]; decide) (by rw [c_1_1]; rfl) (by decide) ?_
      refine lv_aload_n hx hb dX12_told_99 rfl (lv_at hl 0 rfl) ?_
      refine gf_X12_135 C G kd_132 dX12_told_100 ?_
      exact retI C G hs dX12_told_103
    · replace hs := ifF c_1_1 hs
      by_cases c_1_2 : x1 = 2
      · replace hs := ifT c_1_2 hs
        refine lv_tableIn (tgt := 104) hx hb dX12_told_1 (by rw [c_1_2]; decide) (by rw [c_1_2]; decide) (by rw [c_1_2]; rfl) (by decide) ?_
        refine lv_aload_n hx hb dX12_told_104 rfl (lv_at hl 0 rfl) ?_
        refine gf_X12_79 C G kd_132 dX12_told_105 ?_
        exact retI C G hs dX12_told_108
      · replace hs := ifF c_1_2 hs
        by_cases c_1_3 : x1 = 3
        · replace hs := ifT c_1_3 hs
          refine lv_tableIn (tgt := 109) hx hb dX12_told_1 (by rw [c_1_3]; decide) (by rw [c_1_3]; decide) (by rw [c_1_3]; rfl) (by decide) ?_
          refine lv_aload_n hx hb dX12_told_109 rfl (lv_at hl 0 rfl) ?_
          refine gf_X12_72 C G kd_132 dX12_told_110 ?_
          exact retI C G hs dX12_told_113
        · replace hs := ifF c_1_3 hs
          by_cases c_1_4 : x1 = 4
          · replace hs := ifT c_1_4 hs
            refine lv_tableIn (tgt := 114) hx hb dX12_told_1 (by rw [c_1_4]; decide) (by rw [c_1_4]; decide) (by rw [c_1_4]; rfl) (by decide) ?_
            refine lv_aload_n hx hb dX12_told_114 rfl (lv_at hl 0 rfl) ?_
            refine gf_X12_85 C G kd_132 dX12_told_115 ?_
            exact retI C G hs dX12_told_118
          · replace hs := ifF c_1_4 hs
            by_cases c_1_5 : x1 = 5
            · replace hs := ifT c_1_5 hs
              refine lv_tableIn (tgt := 119) hx hb dX12_told_1 (by rw [c_1_5]; decide) (by rw [c_1_5]; decide) (by rw [c_1_5]; rfl) (by decide) ?_
              refine lv_aload_n hx hb dX12_told_119 rfl (lv_at hl 0 rfl) ?_
              refine gf_X12_19 C G kd_132 (n' := 136) rfl dX12_told_120 ?_
              refine lv_iconst (v := 1) hx hb dX12_told_123 (by decide) ?_
              obtain ⟨g_3, hs⟩ := gdE hs
              refine m_iald C G kd_136 ln_136 g_3 dX12_told_124 ?_
              exact retI C G hs dX12_told_125
            · replace hs := ifF c_1_5 hs
              by_cases c_1_6 : x1 = 6
              · replace hs := ifT c_1_6 hs
                refine lv_tableIn (tgt := 126) hx hb dX12_told_1 (by rw [c_1_6]; decide) (by rw [c_1_6]; decide) (by rw [c_1_6]; rfl) (by decide) ?_
                refine lv_aload_n hx hb dX12_told_126 rfl (lv_at hl 0 rfl) ?_
                refine gf_X12_19 C G kd_132 (n' := 136) rfl dX12_told_127 ?_
                refine lv_iconst (v := 2) hx hb dX12_told_130 (by decide) ?_
                obtain ⟨g_4, hs⟩ := gdE hs
                refine m_iald C G kd_136 ln_136 g_4 dX12_told_131 ?_
                exact retI C G hs dX12_told_132
              · replace hs := ifF c_1_6 hs
                by_cases c_1_7 : x1 = 7
                · replace hs := ifT c_1_7 hs
                  refine lv_tableIn (tgt := 133) hx hb dX12_told_1 (by rw [c_1_7]; decide) (by rw [c_1_7]; decide) (by rw [c_1_7]; rfl) (by decide) ?_
                  refine lv_aload_n hx hb dX12_told_133 rfl (lv_at hl 0 rfl) ?_
                  obtain ⟨r_5, σ_5, hc, hs⟩ := biE hs
                  refine callVI (ar := 0) (As := []) (rest := []) C G hl.1 (ctX12_toldFate _  hc) ⟨wd_1041, wd_1043, wd_34, wd_81, wd_1044⟩ (by decide +kernel) rfl ⟨rfl, rfl⟩ ⟨Nat.le_of_ble_eq_true rfl, Nat.le_of_ble_eq_true rfl⟩ (kd_lt kd_132 (by decide)) (ent_12 b cI cZ cO _ kd_132) rfl (Nat.le_of_ble_eq_true rfl) ⟨Nat.le_of_ble_eq_true rfl, Nat.le_of_ble_eq_true rfl⟩ dX12_told_134 rfl (fun H locs G => ?_)
                  exact retI C G hs dX12_told_137
                · replace hs := ifF c_1_7 hs
                  by_cases c_1_8 : x1 = 8
                  · replace hs := ifT c_1_8 hs
                    refine lv_tableIn (tgt := 138) hx hb dX12_told_1 (by rw [c_1_8]; decide) (by rw [c_1_8]; decide) (by rw [c_1_8]; rfl) (by decide) ?_
                    refine lv_iconst (v := 1) hx hb dX12_told_138 (by decide) ?_
                    refine lv_aload_n hx hb dX12_told_139 rfl (lv_at hl 0 rfl) ?_
                    refine gf_X12_72 C G kd_132 dX12_told_140 ?_
                    refine lv_ishl hx hb dX12_told_143 ?_
                    refine lv_iconst (v := 1) hx hb dX12_told_144 (by decide) ?_
                    refine lv_isub hx hb dX12_told_145 ?_
                    refine lv_aload_n hx hb dX12_told_146 rfl (lv_at hl 0 rfl) ?_
                    refine gf_X12_19 C G kd_132 (n' := 136) rfl dX12_told_147 ?_
                    refine lv_iconst (v := 4) hx hb dX12_told_150 (by decide) ?_
                    obtain ⟨g_6, hs⟩ := gdE hs
                    refine m_iald C G kd_136 ln_136 g_6 dX12_told_151 ?_
                    refine lv_iconst (v := (-1)) hx hb dX12_told_152 (by decide) ?_
                    refine lv_ixor hx hb dX12_told_153 ?_
                    refine lv_iand hx hb dX12_told_154 ?_
                    exact retI C G hs dX12_told_155
                  · replace hs := ifF c_1_8 hs
                    by_cases c_1_9 : x1 = 9
                    · replace hs := ifT c_1_9 hs
                      refine lv_tableIn (tgt := 156) hx hb dX12_told_1 (by rw [c_1_9]; decide) (by rw [c_1_9]; decide) (by rw [c_1_9]; rfl) (by decide) ?_
                      refine lv_aload_n hx hb dX12_told_156 rfl (lv_at hl 0 rfl) ?_
                      refine gf_X12_19 C G kd_132 (n' := 136) rfl dX12_told_157 ?_
                      refine lv_iconst (v := 3) hx hb dX12_told_160 (by decide) ?_
                      obtain ⟨g_7, hs⟩ := gdE hs
                      refine m_iald C G kd_136 ln_136 g_7 dX12_told_161 ?_
                      exact retI C G hs dX12_told_162
                    · replace hs := ifF c_1_9 hs
                      by_cases c_1_10 : x1 = 10
                      · replace hs := ifT c_1_10 hs
                        refine lv_tableIn (tgt := 163) hx hb dX12_told_1 (by rw [c_1_10]; decide) (by rw [c_1_10]; decide) (by rw [c_1_10]; rfl) (by decide) ?_
                        refine lv_aload_n hx hb dX12_told_163 rfl (lv_at hl 0 rfl) ?_
                        obtain ⟨r_8, σ_8, hc, hs⟩ := biE hs
                        refine callVI (ar := 0) (As := []) (rest := []) C G hl.1 (ctX12_borne _  hc) ⟨wd_1045, wd_1047, wd_35, wd_81, wd_1048⟩ (by decide +kernel) rfl ⟨rfl, rfl⟩ ⟨Nat.le_of_ble_eq_true rfl, Nat.le_of_ble_eq_true rfl⟩ (kd_lt kd_132 (by decide)) (ent_12 b cI cZ cO _ kd_132) rfl (Nat.le_of_ble_eq_true rfl) ⟨Nat.le_of_ble_eq_true rfl, Nat.le_of_ble_eq_true rfl⟩ dX12_told_164 rfl (fun H locs G => ?_)
                        exact retI C G hs dX12_told_167
                      · replace hs := ifF c_1_10 hs
                        by_cases c_1_11 : x1 = 11
                        · replace hs := ifT c_1_11 hs
                          refine lv_tableIn (tgt := 168) hx hb dX12_told_1 (by rw [c_1_11]; decide) (by rw [c_1_11]; decide) (by rw [c_1_11]; rfl) (by decide) ?_
                          refine lv_aload_n hx hb dX12_told_168 rfl (lv_at hl 0 rfl) ?_
                          obtain ⟨r_9, σ_9, hc, hs⟩ := biE hs
                          refine callVI (ar := 0) (As := []) (rest := []) C G hl.1 (ctX12_madeUp _  hc) ⟨wd_1075, wd_1077, wd_41, wd_81, wd_1078⟩ (by decide +kernel) rfl ⟨rfl, rfl⟩ ⟨Nat.le_of_ble_eq_true rfl, Nat.le_of_ble_eq_true rfl⟩ (kd_lt kd_132 (by decide)) (ent_12 b cI cZ cO _ kd_132) rfl (Nat.le_of_ble_eq_true rfl) ⟨Nat.le_of_ble_eq_true rfl, Nat.le_of_ble_eq_true rfl⟩ dX12_told_169 rfl (fun H locs G => ?_)
                          exact retI C G hs dX12_told_172
                        · replace hs := ifF c_1_11 hs
                          by_cases c_1_12 : x1 = 12
                          · replace hs := ifT c_1_12 hs
                            refine lv_tableIn (tgt := 173) hx hb dX12_told_1 (by rw [c_1_12]; decide) (by rw [c_1_12]; decide) (by rw [c_1_12]; rfl) (by decide) ?_
                            refine lv_aload_n hx hb dX12_told_173 rfl (lv_at hl 0 rfl) ?_
                            obtain ⟨r_10, σ_10, hc, hs⟩ := biE hs
                            refine callVI (ar := 0) (As := []) (rest := []) C G hl.1 (ctX12_worst _  hc) ⟨wd_1079, wd_1081, wd_42, wd_81, wd_1082⟩ (by decide +kernel) rfl ⟨rfl, rfl⟩ ⟨Nat.le_of_ble_eq_true rfl, Nat.le_of_ble_eq_true rfl⟩ (kd_lt kd_132 (by decide)) (ent_12 b cI cZ cO _ kd_132) rfl (Nat.le_of_ble_eq_true rfl) ⟨Nat.le_of_ble_eq_true rfl, Nat.le_of_ble_eq_true rfl⟩ dX12_told_174 rfl (fun H locs G => ?_)
                            exact retI C G hs dX12_told_177
                          · replace hs := ifF c_1_12 hs
                            by_cases c_1_13 : x1 = 13
                            · replace hs := ifT c_1_13 hs
                              refine lv_tableIn (tgt := 178) hx hb dX12_told_1 (by rw [c_1_13]; decide) (by rw [c_1_13]; decide) (by rw [c_1_13]; rfl) (by decide) ?_
                              refine lv_aload_n hx hb dX12_told_178 rfl (lv_at hl 0 rfl) ?_
                              refine gf_X12_144 C G kd_132 dX12_told_179 ?_
                              exact retI C G hs dX12_told_182
                            · replace hs := ifF c_1_13 hs
                              by_cases c_1_14 : x1 = 14
                              · replace hs := ifT c_1_14 hs
                                refine lv_tableIn (tgt := 183) hx hb dX12_told_1 (by rw [c_1_14]; decide) (by rw [c_1_14]; decide) (by rw [c_1_14]; rfl) (by decide) ?_
                                refine lv_aload_n hx hb dX12_told_183 rfl (lv_at hl 0 rfl) ?_
                                obtain ⟨r_11, σ_11, hc, hs⟩ := biE hs
                                refine callVI (ar := 0) (As := []) (rest := []) C G hl.1 (ctX12_manyWent _  hc) ⟨wd_1083, wd_1085, wd_43, wd_81, wd_1086⟩ (by decide +kernel) rfl ⟨rfl, rfl⟩ ⟨Nat.le_of_ble_eq_true rfl, Nat.le_of_ble_eq_true rfl⟩ (kd_lt kd_132 (by decide)) (ent_12 b cI cZ cO _ kd_132) rfl (Nat.le_of_ble_eq_true rfl) ⟨Nat.le_of_ble_eq_true rfl, Nat.le_of_ble_eq_true rfl⟩ dX12_told_184 rfl (fun H locs G => ?_)
                                exact retI C G hs dX12_told_187
                              · replace hs := ifF c_1_14 hs
                                by_cases c_1_15 : x1 = 15
                                · replace hs := ifT c_1_15 hs
                                  refine lv_tableIn (tgt := 188) hx hb dX12_told_1 (by rw [c_1_15]; decide) (by rw [c_1_15]; decide) (by rw [c_1_15]; rfl) (by decide) ?_
                                  refine lv_aload_n hx hb dX12_told_188 rfl (lv_at hl 0 rfl) ?_
                                  obtain ⟨r_12, σ_12, hc, hs⟩ := biE hs
                                  refine callVI (ar := 0) (As := []) (rest := []) C G hl.1 (ctX12_inEach _  hc) ⟨wd_1095, wd_1097, wd_46, wd_81, wd_1098⟩ (by decide +kernel) rfl ⟨rfl, rfl⟩ ⟨Nat.le_of_ble_eq_true rfl, Nat.le_of_ble_eq_true rfl⟩ (kd_lt kd_132 (by decide)) (ent_12 b cI cZ cO _ kd_132) rfl (Nat.le_of_ble_eq_true rfl) ⟨Nat.le_of_ble_eq_true rfl, Nat.le_of_ble_eq_true rfl⟩ dX12_told_189 rfl (fun H locs G => ?_)
                                  exact retI C G hs dX12_told_192
                                · replace hs := ifF c_1_15 hs
                                  by_cases c_1_16 : x1 = 16
                                  · replace hs := ifT c_1_16 hs
                                    refine lv_tableIn (tgt := 193) hx hb dX12_told_1 (by rw [c_1_16]; decide) (by rw [c_1_16]; decide) (by rw [c_1_16]; rfl) (by decide) ?_
                                    refine lv_aload_n hx hb dX12_told_193 rfl (lv_at hl 0 rfl) ?_
                                    obtain ⟨r_13, σ_13, hc, hs⟩ := biE hs
                                    refine callVI (ar := 0) (As := []) (rest := []) C G hl.1 (ctX12_askNext _  hc) ⟨wd_1099, wd_1101, wd_47, wd_81, wd_1102⟩ (by decide +kernel) rfl ⟨rfl, rfl⟩ ⟨Nat.le_of_ble_eq_true rfl, Nat.le_of_ble_eq_true rfl⟩ (kd_lt kd_132 (by decide)) (ent_12 b cI cZ cO _ kd_132) rfl (Nat.le_of_ble_eq_true rfl) ⟨Nat.le_of_ble_eq_true rfl, Nat.le_of_ble_eq_true rfl⟩ dX12_told_194 rfl (fun H locs G => ?_)
                                    exact retI C G hs dX12_told_197
                                  · replace hs := ifF c_1_16 hs
                                    by_cases c_1_17 : x1 = 17
                                    · replace hs := ifT c_1_17 hs
                                      refine lv_tableIn (tgt := 198) hx hb dX12_told_1 (by rw [c_1_17]; decide) (by rw [c_1_17]; decide) (by rw [c_1_17]; rfl) (by decide) ?_
                                      refine lv_aload_n hx hb dX12_told_198 rfl (lv_at hl 0 rfl) ?_
                                      refine gf_X12_147 C G kd_132 dX12_told_199 ?_
                                      exact retI C G hs dX12_told_202
                                    · replace hs := ifF c_1_17 hs
                                      by_cases c_1_18 : x1 = 18
                                      · replace hs := ifT c_1_18 hs
                                        refine lv_tableIn (tgt := 203) hx hb dX12_told_1 (by rw [c_1_18]; decide) (by rw [c_1_18]; decide) (by rw [c_1_18]; rfl) (by decide) ?_
                                        refine lv_aload_n hx hb dX12_told_203 rfl (lv_at hl 0 rfl) ?_
                                        refine gf_X12_150 C G kd_132 dX12_told_204 ?_
                                        exact retI C G hs dX12_told_207
                                      · replace hs := ifF c_1_18 hs
                                        refine lv_tableOut (tgt := 208) hx hb dX12_told_1 (by have t0 := tbl_ne c_1_0 (z := 0) (by decide); have t1 := tbl_ne c_1_1 (z := 1) (by decide); have t2 := tbl_ne c_1_2 (z := 2) (by decide); have t3 := tbl_ne c_1_3 (z := 3) (by decide); have t4 := tbl_ne c_1_4 (z := 4) (by decide); have t5 := tbl_ne c_1_5 (z := 5) (by decide); have t6 := tbl_ne c_1_6 (z := 6) (by decide); have t7 := tbl_ne c_1_7 (z := 7) (by decide); have t8 := tbl_ne c_1_8 (z := 8) (by decide); have t9 := tbl_ne c_1_9 (z := 9) (by decide); have t10 := tbl_ne c_1_10 (z := 10) (by decide); have t11 := tbl_ne c_1_11 (z := 11) (by decide); have t12 := tbl_ne c_1_12 (z := 12) (by decide); have t13 := tbl_ne c_1_13 (z := 13) (by decide); have t14 := tbl_ne c_1_14 (z := 14) (by decide); have t15 := tbl_ne c_1_15 (z := 15) (by decide); have t16 := tbl_ne c_1_16 (z := 16) (by decide); have t17 := tbl_ne c_1_17 (z := 17) (by decide); have t18 := tbl_ne c_1_18 (z := 18) (by decide); omega) (by decide) ?_
                                        refine m_ldc C wd_991 dX12_told_208 ?_
                                        exact retI C G hs dX12_told_210
