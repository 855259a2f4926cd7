-- X12_ridOf
def rmX12_ridOf : Room := { frames := 2, cells := 0, slots := 0, locals := 48 }
def fX12_ridOf_24 (kh : Sg → Int32 → Int32 → Int32 → Option (Int32 × Sg)) (kx : Sg → Int32 → Option (Int32 × Sg)) (σ : Sg) (x1 : Int32) (x3 : Int32) (y0 : Int32) : Option (Int32 × Sg) :=
  lt (x3 + 1) (fun x3_4 => kh σ x1 y0 x3_4)
set_option maxRecDepth 100000 in
set_option maxHeartbeats 4000000 in
theorem wX12_ridOf_24 {p : Program} {l : Launch} {e : Env} {s : State} {m : MethodId} {args : Array Value} {below : List Frame} {meth : Method} {c : Code} {D : va_G} {cI cZ cO : ClassId} {b : Nat} (C : Cx p s m args meth c cX12_ridOf RX12 4 (some .int) D cI cZ cO) {Rr : (Int32 × Sg)} {kh : Sg → Int32 → Int32 → Int32 → Option (Int32 × Sg)} {kx : Sg → Int32 → Option (Int32 × Sg)} (hh : ∀ (σ : Sg) (x1 : Int32) (x2 : Int32) (x3 : Int32) (H : Heap) (locs : List Loc) (ls : Array Slot), kh σ x1 x2 x3 = some Rr → Gd b D cI cZ cO σ s.heap H locs → lv_has ls 4 [(0, .ref (b + 132)), (1, .int x1), (2, .int x2), (3, .int x3)] → W p l e rmX12_ridOf s m args below meth c H locs 0 0 (MQ below (QI b D cI cZ cO Rr) args s 0 0 (fun q => b ≤ q)) (F0 m 4 ls [])) (hxx : ∀ (σ : Sg) (x2 : Int32) (H : Heap) (locs : List Loc) (ls : Array Slot), kx σ x2 = some Rr → Gd b D cI cZ cO σ s.heap H locs → lv_has ls 4 [(2, .int x2)] → W p l e rmX12_ridOf s m args below meth c H locs 0 0 (MQ below (QI b D cI cZ cO Rr) args s 0 0 (fun q => b ≤ q)) (F0 m 31 ls [])) {σ : Sg} {x1 : Int32} {x3 : Int32} {y0 : Int32} {H : Heap} {locs : List Loc} {ls : Array Slot} (hs : fX12_ridOf_24 kh kx σ x1 x3 y0 = some Rr) (G : Gd b D cI cZ cO σ s.heap H locs) (hl : lv_has ls 4 [(0, .ref (b + 132)), (1, .int x1), (3, .int x3)]) : W p l e rmX12_ridOf s m args below meth c H locs 0 0 (MQ below (QI b D cI cZ cO Rr) args s 0 0 (fun q => b ≤ q)) (F0 m 24 ls [.int y0]) := by
  have hx := C.1
  have hb := C.2.1
  unfold fX12_ridOf_24 at hs
  refine lv_istore_n (lv' := [(2, .int y0), (0, .ref (b + 132)), (1, .int x1), (3, .int x3)]) hx hb dX12_ridOf_24 rfl hl (by decide) rfl (fun ls hl => ?_)
  obtain ⟨x3_4, e_4, hs⟩ := ltE hs
  refine lv_iinc (v := x3_4) (lv' := [(3, .int x3_4), (2, .int y0), (0, .ref (b + 132)), (1, .int x1)]) hx hb dX12_ridOf_25 hl (k := 3) rfl (by rw [e_4]; rfl) (by decide) rfl (fun ls hl => ?_)
  refine lv_goto (tgt := 4) hx hb dX12_ridOf_28 (by decide) ?_
  exact hh _ _ _ _ _ _ _ hs G (lv_sub hl [2, 3, 1, 0] rfl)
def fX12_ridOf_4b (kh : Sg → Int32 → Int32 → Int32 → Option (Int32 × Sg)) (kx : Sg → Int32 → Option (Int32 × Sg)) (σ : Sg) (x1 : Int32) (x2 : Int32) (x3 : Int32) : Option (Int32 × Sg) :=
  (if 99 < x3 then kx σ x2 else bi (fX12_bargain σ x1 x3) (fun r_2 σ_2 => (if r_2 = 0 then fX12_ridOf_24 kh kx σ_2 x1 x3 x3 else fX12_ridOf_24 kh kx σ_2 x1 x3 x2)))
set_option maxRecDepth 100000 in
set_option maxHeartbeats 4000000 in
theorem wX12_ridOf_4b {p : Program} {l : Launch} {e : Env} {s : State} {m : MethodId} {args : Array Value} {below : List Frame} {meth : Method} {c : Code} {D : va_G} {cI cZ cO : ClassId} {b : Nat} (C : Cx p s m args meth c cX12_ridOf RX12 4 (some .int) D cI cZ cO) {Rr : (Int32 × Sg)} {kh : Sg → Int32 → Int32 → Int32 → Option (Int32 × Sg)} {kx : Sg → Int32 → Option (Int32 × Sg)} (hh : ∀ (σ : Sg) (x1 : Int32) (x2 : Int32) (x3 : Int32) (H : Heap) (locs : List Loc) (ls : Array Slot), kh σ x1 x2 x3 = some Rr → Gd b D cI cZ cO σ s.heap H locs → lv_has ls 4 [(0, .ref (b + 132)), (1, .int x1), (2, .int x2), (3, .int x3)] → W p l e rmX12_ridOf s m args below meth c H locs 0 0 (MQ below (QI b D cI cZ cO Rr) args s 0 0 (fun q => b ≤ q)) (F0 m 4 ls [])) (hxx : ∀ (σ : Sg) (x2 : Int32) (H : Heap) (locs : List Loc) (ls : Array Slot), kx σ x2 = some Rr → Gd b D cI cZ cO σ s.heap H locs → lv_has ls 4 [(2, .int x2)] → W p l e rmX12_ridOf s m args below meth c H locs 0 0 (MQ below (QI b D cI cZ cO Rr) args s 0 0 (fun q => b ≤ q)) (F0 m 31 ls [])) {σ : Sg} {x1 : Int32} {x2 : Int32} {x3 : Int32} {H : Heap} {locs : List Loc} {ls : Array Slot} (hs : fX12_ridOf_4b kh kx σ x1 x2 x3 = some Rr) (G : Gd b D cI cZ cO σ s.heap H locs) (hl : lv_has ls 4 [(0, .ref (b + 132)), (1, .int x1), (2, .int x2), (3, .int x3)]) : W p l e rmX12_ridOf s m args below meth c H locs 0 0 (MQ below (QI b D cI cZ cO Rr) args s 0 0 (fun q => b ≤ q)) (F0 m 4 ls []) := by
  have hx := C.1
  have hb := C.2.1
  unfold fX12_ridOf_4b at hs
  refine lv_iload_n hx hb dX12_ridOf_4 rfl (lv_at hl 3 rfl) ?_
  refine lv_bipush (v := 99) hx hb dX12_ridOf_5 (by decide) ?_
  refine lv_icmp_gt (tgt := 31) hx hb dX12_ridOf_7 (by decide) (fun c_1 => ?_) (fun c_1 => ?_)
  · replace hs := ifT c_1 hs
    exact hxx _ _ _ _ _ hs G (lv_sub hl [2] rfl)
  · replace hs := ifF c_1 hs
    refine lv_aload_n hx hb dX12_ridOf_10 rfl (lv_at hl 0 rfl) ?_
    refine lv_iload_n hx hb dX12_ridOf_11 rfl (lv_at hl 1 rfl) ?_
    refine lv_iload_n hx hb dX12_ridOf_12 rfl (lv_at hl 3 rfl) ?_
    obtain ⟨r_2, σ_2, hc, hs⟩ := biE hs
    refine callVI (ar := 2) (As := [.int x1, .int x3]) (rest := []) C G hl.1 (ctX12_bargain _  hc) ⟨wd_1116, wd_1118, wd_50, wd_81, wd_1119⟩ (by decide +kernel) rfl ⟨rfl, rfl⟩ ⟨Nat.le_of_ble_eq_true rfl, Nat.le_of_ble_eq_true rfl⟩ (kd_lt kd_132 (by decide)) (ent_12 b cI cZ cO _ kd_132) rfl (Nat.le_of_ble_eq_true rfl) ⟨Nat.le_of_ble_eq_true rfl, Nat.le_of_ble_eq_true rfl⟩ dX12_ridOf_13 rfl (fun H locs G => ?_)
    refine lv_if_ne (tgt := 23) hx hb dX12_ridOf_16 (by decide) (fun c_3 => ?_) (fun c_3 => ?_)
    · replace hs := ifF c_3 hs
      refine lv_iload_n hx hb dX12_ridOf_23 rfl (lv_at hl 2 rfl) ?_
      exact wX12_ridOf_24 C  hh hxx hs G (lv_sub hl [0, 1, 3] rfl)
    · replace hs := ifT c_3 hs
      refine lv_iload_n hx hb dX12_ridOf_19 rfl (lv_at hl 3 rfl) ?_
      refine lv_goto (tgt := 24) hx hb dX12_ridOf_20 (by decide) ?_
      exact wX12_ridOf_24 C  hh hxx hs G (lv_sub hl [0, 1, 3] rfl)
def fX12_ridOf_4 : Nat → (Sg → Int32 → Option (Int32 × Sg)) → Sg → Int32 → Int32 → Int32 → Option (Int32 × Sg)
  | 0, _, _, _, _, _ => none
  | fu + 1, kx, σ, x1, x2, x3 => fX12_ridOf_4b (fX12_ridOf_4 fu kx) kx σ x1 x2 x3
theorem fX12_ridOf_4_s (fu : Nat) (kx : Sg → Int32 → Option (Int32 × Sg)) (σ : Sg) (x1 : Int32) (x2 : Int32) (x3 : Int32) : fX12_ridOf_4 (fu + 1) kx σ x1 x2 x3 = fX12_ridOf_4b (fX12_ridOf_4 fu kx) kx σ x1 x2 x3 := by rw [fX12_ridOf_4]
theorem wX12_ridOf_4 {p : Program} {l : Launch} {e : Env} {s : State} {m : MethodId} {args : Array Value} {below : List Frame} {meth : Method} {c : Code} {D : va_G} {cI cZ cO : ClassId} {b : Nat} (C : Cx p s m args meth c cX12_ridOf RX12 4 (some .int) D cI cZ cO) {Rr : (Int32 × Sg)} {kx : Sg → Int32 → Option (Int32 × Sg)} (hxx : ∀ (σ : Sg) (x2 : Int32) (H : Heap) (locs : List Loc) (ls : Array Slot), kx σ x2 = some Rr → Gd b D cI cZ cO σ s.heap H locs → lv_has ls 4 [(2, .int x2)] → W p l e rmX12_ridOf s m args below meth c H locs 0 0 (MQ below (QI b D cI cZ cO Rr) args s 0 0 (fun q => b ≤ q)) (F0 m 31 ls [])) : ∀ (fu : Nat) (σ : Sg) (x1 : Int32) (x2 : Int32) (x3 : Int32) (H : Heap) (locs : List Loc) (ls : Array Slot), fX12_ridOf_4 fu kx σ x1 x2 x3 = some Rr → Gd b D cI cZ cO σ s.heap H locs → lv_has ls 4 [(0, .ref (b + 132)), (1, .int x1), (2, .int x2), (3, .int x3)] → W p l e rmX12_ridOf s m args below meth c H locs 0 0 (MQ below (QI b D cI cZ cO Rr) args s 0 0 (fun q => b ≤ q)) (F0 m 4 ls []) := by
  intro fu
  induction fu with
  | zero => intro σ x1 x2 x3 H locs ls hs; cases hs
  | succ fu ih =>
    intro σ x1 x2 x3 H locs ls hs G hl
    exact wX12_ridOf_4b C (fun σ x1 x2 x3 H locs ls hs G hl => ih σ x1 x2 x3 H locs ls hs G hl) hxx hs G hl
def fX12_ridOf (σ : Sg) (x1 : Int32) : Option (Int32 × Sg) :=
  fX12_ridOf_4 FU (fun σ_5 x2_5 => some (x2_5, σ_5)) σ x1 0 0
set_option maxRecDepth 100000 in
set_option maxHeartbeats 4000000 in
theorem ctX12_ridOf (l : Launch) {D : va_G} {cI cZ cO : ClassId} {b : Nat} {σ : Sg} {x1 : Int32} {Rr : (Int32 × Sg)} (hs : fX12_ridOf σ x1 = some Rr) : MI l yX12_ridOf cX12_ridOf 4 (some .int) rmX12_ridOf [.ref (b + 132), .int x1] b D cI cZ cO σ Rr := by
  unfold fX12_ridOf at hs
  refine metI (by decide +kernel) (Nat.le_of_ble_eq_true rfl) (fun p e s m below meth c ls C G hl => ?_)
  have C : Cx p s m _ meth c cX12_ridOf RX12 4 (some .int) D cI cZ cO := C
  have hx := C.1
  have hb := C.2.1
  have hl : lv_has ls 4 [(0, .ref (b + 132)), (1, .int x1)] := hl
  refine lv_iconst (v := 0) hx hb dX12_ridOf_0 (by decide) ?_
  refine lv_istore_n (lv' := [(2, .int 0), (0, .ref (b + 132)), (1, .int x1)]) hx hb dX12_ridOf_1 rfl hl (by decide) rfl (fun ls hl => ?_)
  refine lv_iconst (v := 0) hx hb dX12_ridOf_2 (by decide) ?_
  refine lv_istore_n (lv' := [(3, .int 0), (2, .int 0), (0, .ref (b + 132)), (1, .int x1)]) hx hb dX12_ridOf_3 rfl hl (by decide) rfl (fun ls hl => ?_)
  refine wX12_ridOf_4 C (fun σ_5 x2_5 H locs ls hs G hl => ?_) FU _ _ _ _ _ _ _ hs G (lv_sub hl [2, 3, 1, 0] rfl)
  refine lv_iload_n hx hb dX12_ridOf_31 rfl (lv_at hl 0 rfl) ?_
  exact retI C G hs dX12_ridOf_32
-- X12_ofVillage
def rmX12_ofVillage : Room := { frames := 0, cells := 0, slots := 0, locals := 0 }
def fX12_ofVillage_30 (kh : Sg → Int32 → Int32 → Int32 → Option (Int32 × Sg)) (kx : Sg → Int32 → Option (Int32 × Sg)) (σ : Sg) (x1 : Int32) (x3 : Int32) (y0 : Int32) (y1 : Int32) : Option (Int32 × Sg) :=
  lt (y1 ||| y0) (fun x2_4 => lt (x3 + 1) (fun x3_5 => kh σ x1 x2_4 x3_5))
set_option maxRecDepth 100000 in
set_option maxHeartbeats 4000000 in
theorem wX12_ofVillage_30 {p : Program} {l : Launch} {e : Env} {s : State} {m : MethodId} {args : Array Value} {below : List Frame} {meth : Method} {c : Code} {D : va_G} {cI cZ cO : ClassId} {b : Nat} (C : Cx p s m args meth c cX12_ofVillage RX12 4 (some .int) D cI cZ cO) {Rr : (Int32 × Sg)} {kh : Sg → Int32 → Int32 → Int32 → Option (Int32 × Sg)} {kx : Sg → Int32 → Option (Int32 × Sg)} (hh : ∀ (σ : Sg) (x1 : Int32) (x2 : Int32) (x3 : Int32) (H : Heap) (locs : List Loc) (ls : Array Slot), kh σ x1 x2 x3 = some Rr → Gd b D cI cZ cO σ s.heap H locs → lv_has ls 4 [(0, .ref (b + 132)), (1, .int x1), (2, .int x2), (3, .int x3)] → W p l e rmX12_ofVillage s m args below meth c H locs 0 0 (MQ below (QI b D cI cZ cO Rr) args s 0 0 (fun q => b ≤ q)) (F0 m 4 ls [])) (hxx : ∀ (σ : Sg) (x2 : Int32) (H : Heap) (locs : List Loc) (ls : Array Slot), kx σ x2 = some Rr → Gd b D cI cZ cO σ s.heap H locs → lv_has ls 4 [(2, .int x2)] → W p l e rmX12_ofVillage s m args below meth c H locs 0 0 (MQ below (QI b D cI cZ cO Rr) args s 0 0 (fun q => b ≤ q)) (F0 m 38 ls [])) {σ : Sg} {x1 : Int32} {x3 : Int32} {y0 : Int32} {y1 : Int32} {H : Heap} {locs : List Loc} {ls : Array Slot} (hs : fX12_ofVillage_30 kh kx σ x1 x3 y0 y1 = some Rr) (G : Gd b D cI cZ cO σ s.heap H locs) (hl : lv_has ls 4 [(0, .ref (b + 132)), (1, .int x1), (3, .int x3)]) : W p l e rmX12_ofVillage s m args below meth c H locs 0 0 (MQ below (QI b D cI cZ cO Rr) args s 0 0 (fun q => b ≤ q)) (F0 m 30 ls [.int y0, .int y1]) := by
  have hx := C.1
  have hb := C.2.1
  unfold fX12_ofVillage_30 at hs
  refine lv_ior hx hb dX12_ofVillage_30 ?_
  refine topI hs (fun x2_4 hs => ?_)
  refine lv_istore_n (lv' := [(2, .int x2_4), (0, .ref (b + 132)), (1, .int x1), (3, .int x3)]) hx hb dX12_ofVillage_31 rfl hl (by decide) rfl (fun ls hl => ?_)
  obtain ⟨x3_5, e_5, hs⟩ := ltE hs
  refine lv_iinc (v := x3_5) (lv' := [(3, .int x3_5), (2, .int x2_4), (0, .ref (b + 132)), (1, .int x1)]) hx hb dX12_ofVillage_32 hl (k := 3) rfl (by rw [e_5]; rfl) (by decide) rfl (fun ls hl => ?_)
  refine lv_goto (tgt := 4) hx hb dX12_ofVillage_35 (by decide) ?_
  exact hh _ _ _ _ _ _ _ hs G (lv_sub hl [2, 3, 1, 0] rfl)
def fX12_ofVillage_4b (kh : Sg → Int32 → Int32 → Int32 → Option (Int32 × Sg)) (kx : Sg → Int32 → Option (Int32 × Sg)) (σ : Sg) (x1 : Int32) (x2 : Int32) (x3 : Int32) : Option (Int32 × Sg) :=
  (if (σ 132 3) ≤ x3 then kx σ x2 else (if inb x3 7 then (if (σ 134 x3.toNatClampNeg) = x1 then fX12_ofVillage_30 kh kx σ x1 x3 ((1 : Int32) <<< (x3 &&& 31)) x2 else fX12_ofVillage_30 kh kx σ x1 x3 0 x2) else none))
set_option maxRecDepth 100000 in
set_option maxHeartbeats 4000000 in
theorem wX12_ofVillage_4b {p : Program} {l : Launch} {e : Env} {s : State} {m : MethodId} {args : Array Value} {below : List Frame} {meth : Method} {c : Code} {D : va_G} {cI cZ cO : ClassId} {b : Nat} (C : Cx p s m args meth c cX12_ofVillage RX12 4 (some .int) D cI cZ cO) {Rr : (Int32 × Sg)} {kh : Sg → Int32 → Int32 → Int32 → Option (Int32 × Sg)} {kx : Sg → Int32 → Option (Int32 × Sg)} (hh : ∀ (σ : Sg) (x1 : Int32) (x2 : Int32) (x3 : Int32) (H : Heap) (locs : List Loc) (ls : Array Slot), kh σ x1 x2 x3 = some Rr → Gd b D cI cZ cO σ s.heap H locs → lv_has ls 4 [(0, .ref (b + 132)), (1, .int x1), (2, .int x2), (3, .int x3)] → W p l e rmX12_ofVillage s m args below meth c H locs 0 0 (MQ below (QI b D cI cZ cO Rr) args s 0 0 (fun q => b ≤ q)) (F0 m 4 ls [])) (hxx : ∀ (σ : Sg) (x2 : Int32) (H : Heap) (locs : List Loc) (ls : Array Slot), kx σ x2 = some Rr → Gd b D cI cZ cO σ s.heap H locs → lv_has ls 4 [(2, .int x2)] → W p l e rmX12_ofVillage s m args below meth c H locs 0 0 (MQ below (QI b D cI cZ cO Rr) args s 0 0 (fun q => b ≤ q)) (F0 m 38 ls [])) {σ : Sg} {x1 : Int32} {x2 : Int32} {x3 : Int32} {H : Heap} {locs : List Loc} {ls : Array Slot} (hs : fX12_ofVillage_4b kh kx σ x1 x2 x3 = some Rr) (G : Gd b D cI cZ cO σ s.heap H locs) (hl : lv_has ls 4 [(0, .ref (b + 132)), (1, .int x1), (2, .int x2), (3, .int x3)]) : W p l e rmX12_ofVillage s m args below meth c H locs 0 0 (MQ below (QI b D cI cZ cO Rr) args s 0 0 (fun q => b ≤ q)) (F0 m 4 ls []) := by
  have hx := C.1
  have hb := C.2.1
  unfold fX12_ofVillage_4b at hs
  refine lv_iload_n hx hb dX12_ofVillage_4 rfl (lv_at hl 3 rfl) ?_
  refine lv_aload_n hx hb dX12_ofVillage_5 rfl (lv_at hl 0 rfl) ?_
  refine gf_X12_72 C G kd_132 dX12_ofVillage_6 ?_
  refine lv_icmp_ge (tgt := 38) hx hb dX12_ofVillage_9 (by decide) (fun c_1 => ?_) (fun c_1 => ?_)
  · replace hs := ifT c_1 hs
    exact hxx _ _ _ _ _ hs G (lv_sub hl [2] rfl)
  · replace hs := ifF c_1 hs
    refine lv_iload_n hx hb dX12_ofVillage_12 rfl (lv_at hl 2 rfl) ?_
    refine lv_aload_n hx hb dX12_ofVillage_13 rfl (lv_at hl 0 rfl) ?_
    refine gf_X12_13 C G kd_132 (n' := 134) rfl dX12_ofVillage_14 ?_
    refine lv_iload_n hx hb dX12_ofVillage_17 rfl (lv_at hl 3 rfl) ?_
    obtain ⟨g_2, hs⟩ := gdE hs
    refine m_iald C G kd_134 ln_134 g_2 dX12_ofVillage_18 ?_
    refine lv_iload_n hx hb dX12_ofVillage_19 rfl (lv_at hl 1 rfl) ?_
    refine lv_icmp_ne (tgt := 29) hx hb dX12_ofVillage_20 (by decide) (fun c_3 => ?_) (fun c_3 => ?_)
    · replace hs := ifF c_3 hs
      refine lv_iconst (v := 0) hx hb dX12_ofVillage_29 (by decide) ?_
      exact wX12_ofVillage_30 C  hh hxx hs G (lv_sub hl [0, 1, 3] rfl)
    · replace hs := ifT c_3 hs
      refine lv_iconst (v := 1) hx hb dX12_ofVillage_23 (by decide) ?_
      refine lv_iload_n hx hb dX12_ofVillage_24 rfl (lv_at hl 3 rfl) ?_
      refine lv_ishl hx hb dX12_ofVillage_25 ?_
      refine lv_goto (tgt := 30) hx hb dX12_ofVillage_26 (by decide) ?_
      exact wX12_ofVillage_30 C  hh hxx hs G (lv_sub hl [0, 1, 3] rfl)
def fX12_ofVillage_4 : Nat → (Sg → Int32 → Option (Int32 × Sg)) → Sg → Int32 → Int32 → Int32 → Option (Int32 × Sg)
  | 0, _, _, _, _, _ => none
  | fu + 1, kx, σ, x1, x2, x3 => fX12_ofVillage_4b (fX12_ofVillage_4 fu kx) kx σ x1 x2 x3
theorem fX12_ofVillage_4_s (fu : Nat) (kx : Sg → Int32 → Option (Int32 × Sg)) (σ : Sg) (x1 : Int32) (x2 : Int32) (x3 : Int32) : fX12_ofVillage_4 (fu + 1) kx σ x1 x2 x3 = fX12_ofVillage_4b (fX12_ofVillage_4 fu kx) kx σ x1 x2 x3 := by rw [fX12_ofVillage_4]
theorem wX12_ofVillage_4 {p : Program} {l : Launch} {e : Env} {s : State} {m : MethodId} {args : Array Value} {below : List Frame} {meth : Method} {c : Code} {D : va_G} {cI cZ cO : ClassId} {b : Nat} (C : Cx p s m args meth c cX12_ofVillage RX12 4 (some .int) D cI cZ cO) {Rr : (Int32 × Sg)} {kx : Sg → Int32 → Option (Int32 × Sg)} (hxx : ∀ (σ : Sg) (x2 : Int32) (H : Heap) (locs : List Loc) (ls : Array Slot), kx σ x2 = some Rr → Gd b D cI cZ cO σ s.heap H locs → lv_has ls 4 [(2, .int x2)] → W p l e rmX12_ofVillage s m args below meth c H locs 0 0 (MQ below (QI b D cI cZ cO Rr) args s 0 0 (fun q => b ≤ q)) (F0 m 38 ls [])) : ∀ (fu : Nat) (σ : Sg) (x1 : Int32) (x2 : Int32) (x3 : Int32) (H : Heap) (locs : List Loc) (ls : Array Slot), fX12_ofVillage_4 fu kx σ x1 x2 x3 = some Rr → Gd b D cI cZ cO σ s.heap H locs → lv_has ls 4 [(0, .ref (b + 132)), (1, .int x1), (2, .int x2), (3, .int x3)] → W p l e rmX12_ofVillage s m args below meth c H locs 0 0 (MQ below (QI b D cI cZ cO Rr) args s 0 0 (fun q => b ≤ q)) (F0 m 4 ls []) := by
  intro fu
  induction fu with
  | zero => intro σ x1 x2 x3 H locs ls hs; cases hs
  | succ fu ih =>
    intro σ x1 x2 x3 H locs ls hs G hl
    exact wX12_ofVillage_4b C (fun σ x1 x2 x3 H locs ls hs G hl => ih σ x1 x2 x3 H locs ls hs G hl) hxx hs G hl
def fX12_ofVillage (σ : Sg) (x1 : Int32) : Option (Int32 × Sg) :=
  fX12_ofVillage_4 FU (fun σ_6 x2_6 => some (x2_6, σ_6)) σ x1 0 0
set_option maxRecDepth 100000 in
set_option maxHeartbeats 4000000 in
theorem ctX12_ofVillage (l : Launch) {D : va_G} {cI cZ cO : ClassId} {b : Nat} {σ : Sg} {x1 : Int32} {Rr : (Int32 × Sg)} (hs : fX12_ofVillage σ x1 = some Rr) : MI l yX12_ofVillage cX12_ofVillage 4 (some .int) rmX12_ofVillage [.ref (b + 132), .int x1] b D cI cZ cO σ Rr := by
  unfold fX12_ofVillage at hs
  refine metI (by decide +kernel) (Nat.le_of_ble_eq_true rfl) (fun p e s m below meth c ls C G hl => ?_)
  have C : Cx p s m _ meth c cX12_ofVillage RX12 4 (some .int) D cI cZ cO := C
  have hx := C.1
  have hb := C.2.1
  have hl : lv_has ls 4 [(0, .ref (b + 132)), (1, .int x1)] := hl
  refine lv_iconst (v := 0) hx hb dX12_ofVillage_0 (by decide) ?_
  refine lv_istore_n (lv' := [(2, .int 0), (0, .ref (b + 132)), (1, .int x1)]) hx hb dX12_ofVillage_1 rfl hl (by decide) rfl (fun ls hl => ?_)
  refine lv_iconst (v := 0) hx hb dX12_ofVillage_2 (by decide) ?_
  refine lv_istore_n (lv' := [(3, .int 0), (2, .int 0), (0, .ref (b + 132)), (1, .int x1)]) hx hb dX12_ofVillage_3 rfl hl (by decide) rfl (fun ls hl => ?_)
  refine wX12_ofVillage_4 C (fun σ_6 x2_6 H locs ls hs G hl => ?_) FU _ _ _ _ _ _ _ hs G (lv_sub hl [2, 3, 1, 0] rfl)
  refine lv_iload_n hx hb dX12_ofVillage_38 rfl (lv_at hl 0 rfl) ?_
  exact retI C G hs dX12_ofVillage_39
-- X12_ones
def rmX12_ones : Room := { frames := 0, cells := 0, slots := 0, locals := 0 }
def fX12_ones_4b (kh : Sg → Int32 → Int32 → Int32 → Option (Int32 × Sg)) (kx : Sg → Int32 → Option (Int32 × Sg)) (σ : Sg) (x0 : Int32) (x1 : Int32) (x2 : Int32) : Option (Int32 × Sg) :=
  (if 7 ≤ x2 then kx σ x1 else lt (x1 + ((x0 >>> (x2 &&& 31)) &&& 1)) (fun x1_2 => lt (x2 + 1) (fun x2_3 => kh σ x0 x1_2 x2_3)))
set_option maxRecDepth 100000 in
set_option maxHeartbeats 4000000 in
theorem wX12_ones_4b {p : Program} {l : Launch} {e : Env} {s : State} {m : MethodId} {args : Array Value} {below : List Frame} {meth : Method} {c : Code} {D : va_G} {cI cZ cO : ClassId} {b : Nat} (C : Cx p s m args meth c cX12_ones RX12 3 (some .int) D cI cZ cO) {Rr : (Int32 × Sg)} {kh : Sg → Int32 → Int32 → Int32 → Option (Int32 × Sg)} {kx : Sg → Int32 → Option (Int32 × Sg)} (hh : ∀ (σ : Sg) (x0 : Int32) (x1 : Int32) (x2 : Int32) (H : Heap) (locs : List Loc) (ls : Array Slot), kh σ x0 x1 x2 = some Rr → Gd b D cI cZ cO σ s.heap H locs → lv_has ls 3 [(0, .int x0), (1, .int x1), (2, .int x2)] → W p l e rmX12_ones s m args below meth c H locs 0 0 (MQ below (QI b D cI cZ cO Rr) args s 0 0 (fun q => b ≤ q)) (F0 m 4 ls [])) (hxx : ∀ (σ : Sg) (x1 : Int32) (H : Heap) (locs : List Loc) (ls : Array Slot), kx σ x1 = some Rr → Gd b D cI cZ cO σ s.heap H locs → lv_has ls 3 [(1, .int x1)] → W p l e rmX12_ones s m args below meth c H locs 0 0 (MQ below (QI b D cI cZ cO Rr) args s 0 0 (fun q => b ≤ q)) (F0 m 24 ls [])) {σ : Sg} {x0 : Int32} {x1 : Int32} {x2 : Int32} {H : Heap} {locs : List Loc} {ls : Array Slot} (hs : fX12_ones_4b kh kx σ x0 x1 x2 = some Rr) (G : Gd b D cI cZ cO σ s.heap H locs) (hl : lv_has ls 3 [(0, .int x0), (1, .int x1), (2, .int x2)]) : W p l e rmX12_ones s m args below meth c H locs 0 0 (MQ below (QI b D cI cZ cO Rr) args s 0 0 (fun q => b ≤ q)) (F0 m 4 ls []) := by
  have hx := C.1
  have hb := C.2.1
  unfold fX12_ones_4b at hs
  refine lv_iload_n hx hb dX12_ones_4 rfl (lv_at hl 2 rfl) ?_
  refine lv_bipush (v := 7) hx hb dX12_ones_5 (by decide) ?_
  refine lv_icmp_ge (tgt := 24) hx hb dX12_ones_7 (by decide) (fun c_1 => ?_) (fun c_1 => ?_)
  · replace hs := ifT c_1 hs
    exact hxx _ _ _ _ _ hs G (lv_sub hl [1] rfl)
  · replace hs := ifF c_1 hs
    refine lv_iload_n hx hb dX12_ones_10 rfl (lv_at hl 1 rfl) ?_
    refine lv_iload_n hx hb dX12_ones_11 rfl (lv_at hl 0 rfl) ?_
    refine lv_iload_n hx hb dX12_ones_12 rfl (lv_at hl 2 rfl) ?_
    refine lv_ishr hx hb dX12_ones_13 ?_
    refine lv_iconst (v := 1) hx hb dX12_ones_14 (by decide) ?_
    refine lv_iand hx hb dX12_ones_15 ?_
    refine lv_iadd hx hb dX12_ones_16 ?_
    refine topI hs (fun x1_2 hs => ?_)
    refine lv_istore_n (lv' := [(1, .int x1_2), (0, .int x0), (2, .int x2)]) hx hb dX12_ones_17 rfl hl (by decide) rfl (fun ls hl => ?_)
    obtain ⟨x2_3, e_3, hs⟩ := ltE hs
    refine lv_iinc (v := x2_3) (lv' := [(2, .int x2_3), (1, .int x1_2), (0, .int x0)]) hx hb dX12_ones_18 hl (k := 2) rfl (by rw [e_3]; rfl) (by decide) rfl (fun ls hl => ?_)
    refine lv_goto (tgt := 4) hx hb dX12_ones_21 (by decide) ?_
    exact hh _ _ _ _ _ _ _ hs G (lv_sub hl [2, 1, 0] rfl)
def fX12_ones_4 : Nat → (Sg → Int32 → Option (Int32 × Sg)) → Sg → Int32 → Int32 → Int32 → Option (Int32 × Sg)
  | 0, _, _, _, _, _ => none
  | fu + 1, kx, σ, x0, x1, x2 => fX12_ones_4b (fX12_ones_4 fu kx) kx σ x0 x1 x2
theorem fX12_ones_4_s (fu : Nat) (kx : Sg → Int32 → Option (Int32 × Sg)) (σ : Sg) (x0 : Int32) (x1 : Int32) (x2 : Int32) : fX12_ones_4 (fu + 1) kx σ x0 x1 x2 = fX12_ones_4b (fX12_ones_4 fu kx) kx σ x0 x1 x2 := by rw [fX12_ones_4]
theorem wX12_ones_4 {p : Program} {l : Launch} {e : Env} {s : State} {m : MethodId} {args : Array Value} {below : List Frame} {meth : Method} {c : Code} {D : va_G} {cI cZ cO : ClassId} {b : Nat} (C : Cx p s m args meth c cX12_ones RX12 3 (some .int) D cI cZ cO) {Rr : (Int32 × Sg)} {kx : Sg → Int32 → Option (Int32 × Sg)} (hxx : ∀ (σ : Sg) (x1 : Int32) (H : Heap) (locs : List Loc) (ls : Array Slot), kx σ x1 = some Rr → Gd b D cI cZ cO σ s.heap H locs → lv_has ls 3 [(1, .int x1)] → W p l e rmX12_ones s m args below meth c H locs 0 0 (MQ below (QI b D cI cZ cO Rr) args s 0 0 (fun q => b ≤ q)) (F0 m 24 ls [])) : ∀ (fu : Nat) (σ : Sg) (x0 : Int32) (x1 : Int32) (x2 : Int32) (H : Heap) (locs : List Loc) (ls : Array Slot), fX12_ones_4 fu kx σ x0 x1 x2 = some Rr → Gd b D cI cZ cO σ s.heap H locs → lv_has ls 3 [(0, .int x0), (1, .int x1), (2, .int x2)] → W p l e rmX12_ones s m args below meth c H locs 0 0 (MQ below (QI b D cI cZ cO Rr) args s 0 0 (fun q => b ≤ q)) (F0 m 4 ls []) := by
  intro fu
  induction fu with
  | zero => intro σ x0 x1 x2 H locs ls hs; cases hs
  | succ fu ih =>
    intro σ x0 x1 x2 H locs ls hs G hl
    exact wX12_ones_4b C (fun σ x0 x1 x2 H locs ls hs G hl => ih σ x0 x1 x2 H locs ls hs G hl) hxx hs G hl
def fX12_ones (σ : Sg) (x0 : Int32) : Option (Int32 × Sg) :=
  fX12_ones_4 FU (fun σ_4 x1_4 => some (x1_4, σ_4)) σ x0 0 0
set_option maxRecDepth 100000 in
set_option maxHeartbeats 4000000 in
theorem ctX12_ones (l : Launch) {D : va_G} {cI cZ cO : ClassId} {b : Nat} {σ : Sg} {x0 : Int32} {Rr : (Int32 × Sg)} (hs : fX12_ones σ x0 = some Rr) : MI l yX12_ones cX12_ones 3 (some .int) rmX12_ones [.int x0] b D cI cZ cO σ Rr := by
  unfold fX12_ones at hs
  refine metI (by decide +kernel) (Nat.le_of_ble_eq_true rfl) (fun p e s m below meth c ls C G hl => ?_)
  have C : Cx p s m _ meth c cX12_ones RX12 3 (some .int) D cI cZ cO := C
  have hx := C.1
  have hb := C.2.1
  have hl : lv_has ls 3 [(0, .int x0)] := hl
  refine lv_iconst (v := 0) hx hb dX12_ones_0 (by decide) ?_
  refine lv_istore_n (lv' := [(1, .int 0), (0, .int x0)]) hx hb dX12_ones_1 rfl hl (by decide) rfl (fun ls hl => ?_)
  refine lv_iconst (v := 0) hx hb dX12_ones_2 (by decide) ?_
  refine lv_istore_n (lv' := [(2, .int 0), (1, .int 0), (0, .int x0)]) hx hb dX12_ones_3 rfl hl (by decide) rfl (fun ls hl => ?_)
  refine wX12_ones_4 C (fun σ_4 x1_4 H locs ls hs G hl => ?_) FU _ _ _ _ _ _ _ hs G (lv_sub hl [2, 1, 0] rfl)
  refine lv_iload_n hx hb dX12_ones_24 rfl (lv_at hl 0 rfl) ?_
  exact retI C G hs dX12_ones_25
-- X12_takes
def rmX12_takes : Room := { frames := 1, cells := 0, slots := 0, locals := 23 }
def fX12_takes_31 (σ : Sg) (x1 : Int32) (x2 : Int32) (x3 : Int32) (y0 : Int32) : Option (Int32 × Sg) :=
  (if y0 = 0 then some (0, σ) else (if inb ((x1 + 26) + x2) 60 then (if (σ 136 ((x1 + 26) + x2).toNatClampNeg) ≤ x3 then (if inb ((x1 + 26) + x2) 60 then some ((σ 136 ((x1 + 26) + x2).toNatClampNeg), σ) else none) else some (x3, σ)) else none))
set_option maxRecDepth 100000 in
set_option maxHeartbeats 4000000 in
theorem wX12_takes_31 {p : Program} {l : Launch} {e : Env} {s : State} {m : MethodId} {args : Array Value} {below : List Frame} {meth : Method} {c : Code} {D : va_G} {cI cZ cO : ClassId} {b : Nat} (C : Cx p s m args meth c cX12_takes RX12 6 (some .int) D cI cZ cO) {Rr : (Int32 × Sg)} {σ : Sg} {x1 : Int32} {x2 : Int32} {x3 : Int32} {y0 : Int32} {H : Heap} {locs : List Loc} {ls : Array Slot} (hs : fX12_takes_31 σ x1 x2 x3 y0 = some Rr) (G : Gd b D cI cZ cO σ s.heap H locs) (hl : lv_has ls 6 [(0, .ref (b + 132)), (1, .int x1), (2, .int x2), (3, .int x3)]) : W p l e rmX12_takes s m args below meth c H locs 0 0 (MQ below (QI b D cI cZ cO Rr) args s 0 0 (fun q => b ≤ q)) (F0 m 31 ls [.int y0]) := by
  have hx := C.1
  have hb := C.2.1
  unfold fX12_takes_31 at hs
  refine lv_istore (lv' := [(5, .int y0), (0, .ref (b + 132)), (1, .int x1), (2, .int x2), (3, .int x3)]) hx hb dX12_takes_31 hl (by decide) rfl (fun ls hl => ?_)
  refine lv_iload hx hb dX12_takes_33 (lv_at hl 0 rfl) ?_
  refine lv_if_ne (tgt := 42) hx hb dX12_takes_35 (by decide) (fun c_3 => ?_) (fun c_3 => ?_)
  · replace hs := ifF c_3 hs
    refine lv_iload_n hx hb dX12_takes_42 rfl (lv_at hl 4 rfl) ?_
    refine lv_aload_n hx hb dX12_takes_43 rfl (lv_at hl 1 rfl) ?_
    refine gf_X12_19 C G kd_132 (n' := 136) rfl dX12_takes_44 ?_
    refine lv_iload_n hx hb dX12_takes_47 rfl (lv_at hl 2 rfl) ?_
    refine lv_bipush (v := 26) hx hb dX12_takes_48 (by decide) ?_
    refine lv_iadd hx hb dX12_takes_50 ?_
    refine lv_iload_n hx hb dX12_takes_51 rfl (lv_at hl 3 rfl) ?_
    refine lv_iadd hx hb dX12_takes_52 ?_
    obtain ⟨g_4, hs⟩ := gdE hs
    refine m_iald C G kd_136 ln_136 g_4 dX12_takes_53 ?_
    refine lv_icmp_ge (tgt := 61) hx hb dX12_takes_54 (by decide) (fun c_5 => ?_) (fun c_5 => ?_)
    · replace hs := ifT c_5 hs
      refine lv_aload_n hx hb dX12_takes_61 rfl (lv_at hl 1 rfl) ?_
      refine gf_X12_19 C G kd_132 (n' := 136) rfl dX12_takes_62 ?_
      refine lv_iload_n hx hb dX12_takes_65 rfl (lv_at hl 2 rfl) ?_
      refine lv_bipush (v := 26) hx hb dX12_takes_66 (by decide) ?_
      refine lv_iadd hx hb dX12_takes_68 ?_
      refine lv_iload_n hx hb dX12_takes_69 rfl (lv_at hl 3 rfl) ?_
      refine lv_iadd hx hb dX12_takes_70 ?_
      obtain ⟨g_6, hs⟩ := gdE hs
      refine m_iald C G kd_136 ln_136 g_6 dX12_takes_71 ?_
      exact retI C G hs dX12_takes_72
    · replace hs := ifF c_5 hs
      refine lv_iload_n hx hb dX12_takes_57 rfl (lv_at hl 4 rfl) ?_
      refine lv_goto (tgt := 72) hx hb dX12_takes_58 (by decide) ?_
      exact retI C G hs dX12_takes_72
  · replace hs := ifT c_3 hs
    refine lv_iconst (v := 0) hx hb dX12_takes_38 (by decide) ?_
    refine lv_goto (tgt := 72) hx hb dX12_takes_39 (by decide) ?_
    exact retI C G hs dX12_takes_72
def fX12_takes_30 (σ : Sg) (x1 : Int32) (x2 : Int32) (x3 : Int32) : Option (Int32 × Sg) :=
  fX12_takes_31 σ x1 x2 x3 0
set_option maxRecDepth 100000 in
set_option maxHeartbeats 4000000 in
theorem wX12_takes_30 {p : Program} {l : Launch} {e : Env} {s : State} {m : MethodId} {args : Array Value} {below : List Frame} {meth : Method} {c : Code} {D : va_G} {cI cZ cO : ClassId} {b : Nat} (C : Cx p s m args meth c cX12_takes RX12 6 (some .int) D cI cZ cO) {Rr : (Int32 × Sg)} {σ : Sg} {x1 : Int32} {x2 : Int32} {x3 : Int32} {H : Heap} {locs : List Loc} {ls : Array Slot} (hs : fX12_takes_30 σ x1 x2 x3 = some Rr) (G : Gd b D cI cZ cO σ s.heap H locs) (hl : lv_has ls 6 [(0, .ref (b + 132)), (1, .int x1), (2, .int x2), (3, .int x3)]) : W p l e rmX12_takes s m args below meth c H locs 0 0 (MQ below (QI b D cI cZ cO Rr) args s 0 0 (fun q => b ≤ q)) (F0 m 30 ls []) := by
  have hx := C.1
  have hb := C.2.1
  unfold fX12_takes_30 at hs
  refine lv_iconst (v := 0) hx hb dX12_takes_30 (by decide) ?_
  exact wX12_takes_31 C   hs G (lv_sub hl [0, 1, 2, 3] rfl)
def fX12_takes (σ : Sg) (x1 : Int32) (x2 : Int32) (x3 : Int32) : Option (Int32 × Sg) :=
  bi (fX12_ofVillage σ x2) (fun r_1 σ_1 => (if r_1 = 0 then fX12_takes_30 σ_1 x1 x2 x3 else (if inb (x1 + 4) 60 then (if (r_1 &&& (σ_1 136 (x1 + 4).toNatClampNeg)) = 0 then fX12_takes_31 σ_1 x1 x2 x3 1 else fX12_takes_30 σ_1 x1 x2 x3) else none)))
set_option maxRecDepth 100000 in
set_option maxHeartbeats 4000000 in
theorem ctX12_takes (l : Launch) {D : va_G} {cI cZ cO : ClassId} {b : Nat} {σ : Sg} {x1 : Int32} {x2 : Int32} {x3 : Int32} {Rr : (Int32 × Sg)} (hs : fX12_takes σ x1 x2 x3 = some Rr) : MI l yX12_takes cX12_takes 6 (some .int) rmX12_takes [.ref (b + 132), .int x1, .int x2, .int x3] b D cI cZ cO σ Rr := by
  unfold fX12_takes at hs
  refine metI (by decide +kernel) (Nat.le_of_ble_eq_true rfl) (fun p e s m below meth c ls C G hl => ?_)
  have C : Cx p s m _ meth c cX12_takes RX12 6 (some .int) D cI cZ cO := C
  have hx := C.1
  have hb := C.2.1
  have hl : lv_has ls 6 [(0, .ref (b + 132)), (1, .int x1), (2, .int x2), (3, .int x3)] := hl
  refine lv_aload_n hx hb dX12_takes_0 rfl (lv_at hl 0 rfl) ?_
  refine lv_iload_n hx hb dX12_takes_1 rfl (lv_at hl 2 rfl) ?_
  obtain ⟨r_1, σ_1, hc, hs⟩ := biE hs
  refine callVI (ar := 1) (As := [.int x2]) (rest := []) C G hl.1 (ctX12_ofVillage _  hc) ⟨wd_1061, wd_1063, wd_39, wd_81, wd_1064⟩ (by decide +kernel) rfl ⟨rfl, rfl⟩ ⟨Nat.le_of_ble_eq_true rfl, Nat.le_of_ble_eq_true rfl⟩ (kd_lt kd_132 (by decide)) (ent_12 b cI cZ cO _ kd_132) rfl (Nat.le_of_ble_eq_true rfl) ⟨Nat.le_of_ble_eq_true rfl, Nat.le_of_ble_eq_true rfl⟩ dX12_takes_2 rfl (fun H locs G => ?_)
  refine lv_istore (lv' := [(4, .int r_1), (0, .ref (b + 132)), (1, .int x1), (2, .int x2), (3, .int x3)]) hx hb dX12_takes_5 hl (by decide) rfl (fun ls hl => ?_)
  refine lv_iload hx hb dX12_takes_7 (lv_at hl 0 rfl) ?_
  refine lv_if_eq (tgt := 30) hx hb dX12_takes_9 (by decide) (fun c_2 => ?_) (fun c_2 => ?_)
  · replace hs := ifT c_2 hs
    exact wX12_takes_30 C   hs G (lv_sub hl [1, 2, 3, 4] rfl)
  · replace hs := ifF c_2 hs
    refine lv_iload hx hb dX12_takes_12 (lv_at hl 0 rfl) ?_
    refine lv_aload_n hx hb dX12_takes_14 rfl (lv_at hl 1 rfl) ?_
    refine gf_X12_19 C G kd_132 (n' := 136) rfl dX12_takes_15 ?_
    refine lv_iload_n hx hb dX12_takes_18 rfl (lv_at hl 2 rfl) ?_
    refine lv_iconst (v := 4) hx hb dX12_takes_19 (by decide) ?_
    refine lv_iadd hx hb dX12_takes_20 ?_
    obtain ⟨g_7, hs⟩ := gdE hs
    refine m_iald C G kd_136 ln_136 g_7 dX12_takes_21 ?_
    refine lv_iand hx hb dX12_takes_22 ?_
    refine lv_if_ne (tgt := 30) hx hb dX12_takes_23 (by decide) (fun c_8 => ?_) (fun c_8 => ?_)
    · replace hs := ifF c_8 hs
      exact wX12_takes_30 C   hs G (lv_sub hl [1, 2, 3, 4] rfl)
    · replace hs := ifT c_8 hs
      refine lv_iconst (v := 1) hx hb dX12_takes_26 (by decide) ?_
      refine lv_goto (tgt := 31) hx hb dX12_takes_27 (by decide) ?_
      exact wX12_takes_31 C   hs G (lv_sub hl [1, 2, 3, 4] rfl)
-- X12_harms
def rmX12_harms : Room := { frames := 0, cells := 0, slots := 0, locals := 0 }
def fX12_harms_41 (σ : Sg) (y0 : Int32) (y1 : Int32) : Option Sg :=
  (if inb y1 60 then lt (st σ 136 y1.toNatClampNeg y0) (fun σ_4 => some σ_4) else none)
set_option maxRecDepth 100000 in
set_option maxHeartbeats 4000000 in
theorem wX12_harms_41 {p : Program} {l : Launch} {e : Env} {s : State} {m : MethodId} {args : Array Value} {below : List Frame} {meth : Method} {c : Code} {D : va_G} {cI cZ cO : ClassId} {b : Nat} (C : Cx p s m args meth c cX12_harms RX12 5 none D cI cZ cO) {Rr : Sg} {σ : Sg} {y0 : Int32} {y1 : Int32} {H : Heap} {locs : List Loc} {ls : Array Slot} (hs : fX12_harms_41 σ y0 y1 = some Rr) (G : Gd b D cI cZ cO σ s.heap H locs) (hl : lv_has ls 5 []) : W p l e rmX12_harms s m args below meth c H locs 0 0 (MQ below (QV b D cI cZ cO Rr) args s 0 0 (fun q => b ≤ q)) (F0 m 41 ls [.int y0, .int y1, .ref (b + 136)]) := by
  have hx := C.1
  have hb := C.2.1
  unfold fX12_harms_41 at hs
  obtain ⟨g_4, hs⟩ := gdE hs
  refine m_iast C G kd_136 ln_136 g_4 hs dX12_harms_41 (fun σ_4 H locs hs G => ?_)
  exact retV C G hs dX12_harms_42
def fX12_harms (σ : Sg) (x1 : Int32) (x2 : Int32) (x3 : Int32) : Option Sg :=
  (if inb ((x1 + 19) + x2) 60 then lt ((σ 136 ((x1 + 19) + x2).toNatClampNeg) + x3) (fun x4_2 => (if x4_2 ≤ 9999 then fX12_harms_41 σ x4_2 ((x1 + 19) + x2) else fX12_harms_41 σ 9999 ((x1 + 19) + x2))) else none)
set_option maxRecDepth 100000 in
set_option maxHeartbeats 4000000 in
theorem ctX12_harms (l : Launch) {D : va_G} {cI cZ cO : ClassId} {b : Nat} {σ : Sg} {x1 : Int32} {x2 : Int32} {x3 : Int32} {Rr : Sg} (hs : fX12_harms σ x1 x2 x3 = some Rr) : MV l yX12_harms cX12_harms 5 rmX12_harms [.ref (b + 132), .int x1, .int x2, .int x3] b D cI cZ cO σ Rr := by
  unfold fX12_harms at hs
  refine metV (by decide +kernel) (Nat.le_of_ble_eq_true rfl) (fun p e s m below meth c ls C G hl => ?_)
  have C : Cx p s m _ meth c cX12_harms RX12 5 none D cI cZ cO := C
  have hx := C.1
  have hb := C.2.1
  have hl : lv_has ls 5 [(0, .ref (b + 132)), (1, .int x1), (2, .int x2), (3, .int x3)] := hl
  refine lv_aload_n hx hb dX12_harms_0 rfl (lv_at hl 0 rfl) ?_
  refine gf_X12_19 C G kd_132 (n' := 136) rfl dX12_harms_1 ?_
  refine lv_iload_n hx hb dX12_harms_4 rfl (lv_at hl 1 rfl) ?_
  refine lv_bipush (v := 19) hx hb dX12_harms_5 (by decide) ?_
  refine lv_iadd hx hb dX12_harms_7 ?_
  refine lv_iload_n hx hb dX12_harms_8 rfl (lv_at hl 2 rfl) ?_
  refine lv_iadd hx hb dX12_harms_9 ?_
  obtain ⟨g_1, hs⟩ := gdE hs
  refine m_iald C G kd_136 ln_136 g_1 dX12_harms_10 ?_
  refine lv_iload_n hx hb dX12_harms_11 rfl (lv_at hl 3 rfl) ?_
  refine lv_iadd hx hb dX12_harms_12 ?_
  refine topI hs (fun x4_2 hs => ?_)
  refine lv_istore (lv' := [(4, .int x4_2), (0, .ref (b + 132)), (1, .int x1), (2, .int x2), (3, .int x3)]) hx hb dX12_harms_13 hl (by decide) rfl (fun ls hl => ?_)
  refine lv_aload_n hx hb dX12_harms_15 rfl (lv_at hl 1 rfl) ?_
  refine gf_X12_19 C G kd_132 (n' := 136) rfl dX12_harms_16 ?_
  refine lv_iload_n hx hb dX12_harms_19 rfl (lv_at hl 2 rfl) ?_
  refine lv_bipush (v := 19) hx hb dX12_harms_20 (by decide) ?_
  refine lv_iadd hx hb dX12_harms_22 ?_
  refine lv_iload_n hx hb dX12_harms_23 rfl (lv_at hl 3 rfl) ?_
  refine lv_iadd hx hb dX12_harms_24 ?_
  refine lv_iload hx hb dX12_harms_25 (lv_at hl 0 rfl) ?_
  refine lv_sipush (v := 9999) hx hb dX12_harms_27 (by decide) ?_
  refine lv_icmp_le (tgt := 39) hx hb dX12_harms_30 (by decide) (fun c_3 => ?_) (fun c_3 => ?_)
  · replace hs := ifT c_3 hs
    refine lv_iload hx hb dX12_harms_39 (lv_at hl 0 rfl) ?_
    exact wX12_harms_41 C   hs G (lv_sub hl [] rfl)
  · replace hs := ifF c_3 hs
    refine lv_sipush (v := 9999) hx hb dX12_harms_33 (by decide) ?_
    refine lv_goto (tgt := 41) hx hb dX12_harms_36 (by decide) ?_
    exact wX12_harms_41 C   hs G (lv_sub hl [] rfl)
