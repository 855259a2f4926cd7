-- X2_harmIn
def rmX2_harmIn : Room := { frames := 0, cells := 0, slots := 0, locals := 0 }
def fX2_harmIn_40 (kh : Sg → Int32 → Int32 → Int32 → Option (Int32 × Sg)) (kx : Sg → Int32 → Option (Int32 × Sg)) (σ : Sg) (x1 : Int32) (x2 : Int32) (x3 : Int32) : Option (Int32 × Sg) :=
  lt (x3 + 1) (fun x3_6 => kh σ x1 x2 x3_6)
set_option maxRecDepth 100000 in
set_option maxHeartbeats 4000000 in
theorem wX2_harmIn_40 {p : Program} {l : Launch} {e : Env} {s : State} {m : MethodId} {args : Array Value} {below : List Frame} {meth : Method} {c : Code} {D : va_G} {cI cZ cO : ClassId} {b : Nat} (C : Cx p s m args meth c cX2_harmIn RX2 4 (some .int) D cI cZ cO) {Rr : (Int32 × Sg)} {kh : Sg → Int32 → Int32 → Int32 → Option (Int32 × Sg)} {kx : Sg → Int32 → Option (Int32 × Sg)} (hh : ∀ (σ : Sg) (x1 : Int32) (x2 : Int32) (x3 : Int32) (H : Heap) (locs : List Loc) (ls : Array Slot), kh σ x1 x2 x3 = some Rr → Gd b D cI cZ cO σ s.heap H locs → lv_has ls 4 [(0, .ref (b + 3)), (1, .int x1), (2, .int x2), (3, .int x3)] → W p l e rmX2_harmIn s m args below meth c H locs 0 0 (MQ below (QI b D cI cZ cO Rr) args s 0 0 (fun q => b ≤ q)) (F0 m 4 ls [])) (hxx : ∀ (σ : Sg) (x2 : Int32) (H : Heap) (locs : List Loc) (ls : Array Slot), kx σ x2 = some Rr → Gd b D cI cZ cO σ s.heap H locs → lv_has ls 4 [(2, .int x2)] → W p l e rmX2_harmIn s m args below meth c H locs 0 0 (MQ below (QI b D cI cZ cO Rr) args s 0 0 (fun q => b ≤ q)) (F0 m 46 ls [])) {σ : Sg} {x1 : Int32} {x2 : Int32} {x3 : Int32} {H : Heap} {locs : List Loc} {ls : Array Slot} (hs : fX2_harmIn_40 kh kx σ x1 x2 x3 = some Rr) (G : Gd b D cI cZ cO σ s.heap H locs) (hl : lv_has ls 4 [(0, .ref (b + 3)), (1, .int x1), (2, .int x2), (3, .int x3)]) : W p l e rmX2_harmIn s m args below meth c H locs 0 0 (MQ below (QI b D cI cZ cO Rr) args s 0 0 (fun q => b ≤ q)) (F0 m 40 ls []) := by
  have hx := C.1
  have hb := C.2.1
  unfold fX2_harmIn_40 at hs
  obtain ⟨x3_6, e_6, hs⟩ := ltE hs
  refine lv_iinc (v := x3_6) (lv' := [(3, .int x3_6), (0, .ref (b + 3)), (1, .int x1), (2, .int x2)]) hx hb dX2_harmIn_40 hl (k := 3) rfl (by rw [e_6]; rfl) (by decide) rfl (fun ls hl => ?_)
  refine lv_goto (tgt := 4) hx hb dX2_harmIn_43 (by decide) ?_
  exact hh _ _ _ _ _ _ _ hs G (lv_sub hl [1, 2, 3, 0] rfl)
def fX2_harmIn_4b (kh : Sg → Int32 → Int32 → Int32 → Option (Int32 × Sg)) (kx : Sg → Int32 → Option (Int32 × Sg)) (σ : Sg) (x1 : Int32) (x2 : Int32) (x3 : Int32) : Option (Int32 × Sg) :=
  gk 4 (dn (σ 3 0)) (fun n_1 => (if (σ n_1 4) ≤ x3 then kx σ x2 else gk 4 (dn (σ 3 0)) (fun n_3 => (if inb x3 7 then (if (σ (n_3 + 2) x3.toNatClampNeg) = x1 then (if inb x3 7 then lt (x2 + (σ 13 x3.toNatClampNeg)) (fun x2_8 => fX2_harmIn_40 kh kx σ x1 x2_8 x3) else none) else fX2_harmIn_40 kh kx σ x1 x2 x3) else none))))
set_option maxRecDepth 100000 in
set_option maxHeartbeats 4000000 in
theorem wX2_harmIn_4b {p : Program} {l : Launch} {e : Env} {s : State} {m : MethodId} {args : Array Value} {below : List Frame} {meth : Method} {c : Code} {D : va_G} {cI cZ cO : ClassId} {b : Nat} (C : Cx p s m args meth c cX2_harmIn RX2 4 (some .int) D cI cZ cO) {Rr : (Int32 × Sg)} {kh : Sg → Int32 → Int32 → Int32 → Option (Int32 × Sg)} {kx : Sg → Int32 → Option (Int32 × Sg)} (hh : ∀ (σ : Sg) (x1 : Int32) (x2 : Int32) (x3 : Int32) (H : Heap) (locs : List Loc) (ls : Array Slot), kh σ x1 x2 x3 = some Rr → Gd b D cI cZ cO σ s.heap H locs → lv_has ls 4 [(0, .ref (b + 3)), (1, .int x1), (2, .int x2), (3, .int x3)] → W p l e rmX2_harmIn s m args below meth c H locs 0 0 (MQ below (QI b D cI cZ cO Rr) args s 0 0 (fun q => b ≤ q)) (F0 m 4 ls [])) (hxx : ∀ (σ : Sg) (x2 : Int32) (H : Heap) (locs : List Loc) (ls : Array Slot), kx σ x2 = some Rr → Gd b D cI cZ cO σ s.heap H locs → lv_has ls 4 [(2, .int x2)] → W p l e rmX2_harmIn s m args below meth c H locs 0 0 (MQ below (QI b D cI cZ cO Rr) args s 0 0 (fun q => b ≤ q)) (F0 m 46 ls [])) {σ : Sg} {x1 : Int32} {x2 : Int32} {x3 : Int32} {H : Heap} {locs : List Loc} {ls : Array Slot} (hs : fX2_harmIn_4b kh kx σ x1 x2 x3 = some Rr) (G : Gd b D cI cZ cO σ s.heap H locs) (hl : lv_has ls 4 [(0, .ref (b + 3)), (1, .int x1), (2, .int x2), (3, .int x3)]) : W p l e rmX2_harmIn s m args below meth c H locs 0 0 (MQ below (QI b D cI cZ cO Rr) args s 0 0 (fun q => b ≤ q)) (F0 m 4 ls []) := by
  have hx := C.1
  have hb := C.2.1
  unfold fX2_harmIn_4b at hs
  refine lv_iload_n hx hb dX2_harmIn_4 rfl (lv_at hl 3 rfl) ?_
  refine lv_aload_n hx hb dX2_harmIn_5 rfl (lv_at hl 0 rfl) ?_
  obtain ⟨n_1, en_1, hk_1, hs⟩ := gkE hs
  refine gf_X2_12 C G kd_3 en_1 dX2_harmIn_6 ?_
  refine gf_X2_32 C G hk_1 dX2_harmIn_9 ?_
  refine lv_icmp_ge (tgt := 46) hx hb dX2_harmIn_12 (by decide) (fun c_2 => ?_) (fun c_2 => ?_)
  · replace hs := ifT c_2 hs
    exact hxx _ _ _ _ _ hs G (lv_sub hl [2] rfl)
  · replace hs := ifF c_2 hs
    refine lv_aload_n hx hb dX2_harmIn_15 rfl (lv_at hl 0 rfl) ?_
    obtain ⟨n_3, en_3, hk_3, hs⟩ := gkE hs
    refine gf_X2_12 C G kd_3 en_3 dX2_harmIn_16 ?_
    refine gf_X2_117 C G hk_3 (n' := (n_3 + 2)) rfl dX2_harmIn_19 ?_
    refine lv_iload_n hx hb dX2_harmIn_22 rfl (lv_at hl 3 rfl) ?_
    obtain ⟨g_4, hs⟩ := gdE hs
    refine m_iald C G (kH2 hk_3) (lH2 hk_3) g_4 dX2_harmIn_23 ?_
    refine lv_iload_n hx hb dX2_harmIn_24 rfl (lv_at hl 1 rfl) ?_
    refine lv_icmp_ne (tgt := 40) hx hb dX2_harmIn_25 (by decide) (fun c_5 => ?_) (fun c_5 => ?_)
    · replace hs := ifF c_5 hs
      exact wX2_harmIn_40 C  hh hxx hs G (lv_sub hl [0, 1, 2, 3] rfl)
    · replace hs := ifT c_5 hs
      refine lv_iload_n hx hb dX2_harmIn_28 rfl (lv_at hl 2 rfl) ?_
      refine lv_aload_n hx hb dX2_harmIn_29 rfl (lv_at hl 0 rfl) ?_
      refine gf_X2_21 C G kd_3 (n' := 11) rfl dX2_harmIn_30 ?_
      refine gf_X2_150 C G kd_11 (n' := 13) rfl dX2_harmIn_33 ?_
      refine lv_iload_n hx hb dX2_harmIn_36 rfl (lv_at hl 3 rfl) ?_
      obtain ⟨g_7, hs⟩ := gdE hs
      refine m_iald C G kd_13 ln_13 g_7 dX2_harmIn_37 ?_
      refine lv_iadd hx hb dX2_harmIn_38 ?_
      refine topI hs (fun x2_8 hs => ?_)
      refine lv_istore_n (lv' := [(2, .int x2_8), (0, .ref (b + 3)), (1, .int x1), (3, .int x3)]) hx hb dX2_harmIn_39 rfl hl (by decide) rfl (fun ls hl => ?_)
      exact wX2_harmIn_40 C  hh hxx hs G (lv_sub hl [1, 2, 0, 3] rfl)
def fX2_harmIn_4 : Nat → (Sg → Int32 → Option (Int32 × Sg)) → Sg → Int32 → Int32 → Int32 → Option (Int32 × Sg)
  | 0, _, _, _, _, _ => none
  | fu + 1, kx, σ, x1, x2, x3 => fX2_harmIn_4b (fX2_harmIn_4 fu kx) kx σ x1 x2 x3
theorem fX2_harmIn_4_s (fu : Nat) (kx : Sg → Int32 → Option (Int32 × Sg)) (σ : Sg) (x1 : Int32) (x2 : Int32) (x3 : Int32) : fX2_harmIn_4 (fu + 1) kx σ x1 x2 x3 = fX2_harmIn_4b (fX2_harmIn_4 fu kx) kx σ x1 x2 x3 := by rw [fX2_harmIn_4]
theorem wX2_harmIn_4 {p : Program} {l : Launch} {e : Env} {s : State} {m : MethodId} {args : Array Value} {below : List Frame} {meth : Method} {c : Code} {D : va_G} {cI cZ cO : ClassId} {b : Nat} (C : Cx p s m args meth c cX2_harmIn RX2 4 (some .int) D cI cZ cO) {Rr : (Int32 × Sg)} {kx : Sg → Int32 → Option (Int32 × Sg)} (hxx : ∀ (σ : Sg) (x2 : Int32) (H : Heap) (locs : List Loc) (ls : Array Slot), kx σ x2 = some Rr → Gd b D cI cZ cO σ s.heap H locs → lv_has ls 4 [(2, .int x2)] → W p l e rmX2_harmIn s m args below meth c H locs 0 0 (MQ below (QI b D cI cZ cO Rr) args s 0 0 (fun q => b ≤ q)) (F0 m 46 ls [])) : ∀ (fu : Nat) (σ : Sg) (x1 : Int32) (x2 : Int32) (x3 : Int32) (H : Heap) (locs : List Loc) (ls : Array Slot), fX2_harmIn_4 fu kx σ x1 x2 x3 = some Rr → Gd b D cI cZ cO σ s.heap H locs → lv_has ls 4 [(0, .ref (b + 3)), (1, .int x1), (2, .int x2), (3, .int x3)] → W p l e rmX2_harmIn s m args below meth c H locs 0 0 (MQ below (QI b D cI cZ cO Rr) args s 0 0 (fun q => b ≤ q)) (F0 m 4 ls []) := by
  intro fu
  induction fu with
  | zero => intro σ x1 x2 x3 H locs ls hs; cases hs
  | succ fu ih =>
    intro σ x1 x2 x3 H locs ls hs G hl
    exact wX2_harmIn_4b C (fun σ x1 x2 x3 H locs ls hs G hl => ih σ x1 x2 x3 H locs ls hs G hl) hxx hs G hl
def fX2_harmIn (σ : Sg) (x1 : Int32) : Option (Int32 × Sg) :=
  fX2_harmIn_4 FU (fun σ_9 x2_9 => some (x2_9, σ_9)) σ x1 0 0
set_option maxRecDepth 100000 in
set_option maxHeartbeats 4000000 in
theorem ctX2_harmIn (l : Launch) {D : va_G} {cI cZ cO : ClassId} {b : Nat} {σ : Sg} {x1 : Int32} {Rr : (Int32 × Sg)} (hs : fX2_harmIn σ x1 = some Rr) : MI l yX2_harmIn cX2_harmIn 4 (some .int) rmX2_harmIn [.ref (b + 3), .int x1] b D cI cZ cO σ Rr := by
  unfold fX2_harmIn at hs
  refine metI (by decide +kernel) (Nat.le_of_ble_eq_true rfl) (fun p e s m below meth c ls C G hl => ?_)
  have C : Cx p s m _ meth c cX2_harmIn RX2 4 (some .int) D cI cZ cO := C
  have hx := C.1
  have hb := C.2.1
  have hl : lv_has ls 4 [(0, .ref (b + 3)), (1, .int x1)] := hl
  refine lv_iconst (v := 0) hx hb dX2_harmIn_0 (by decide) ?_
  refine lv_istore_n (lv' := [(2, .int 0), (0, .ref (b + 3)), (1, .int x1)]) hx hb dX2_harmIn_1 rfl hl (by decide) rfl (fun ls hl => ?_)
  refine lv_iconst (v := 0) hx hb dX2_harmIn_2 (by decide) ?_
  refine lv_istore_n (lv' := [(3, .int 0), (2, .int 0), (0, .ref (b + 3)), (1, .int x1)]) hx hb dX2_harmIn_3 rfl hl (by decide) rfl (fun ls hl => ?_)
  refine wX2_harmIn_4 C (fun σ_9 x2_9 H locs ls hs G hl => ?_) FU _ _ _ _ _ _ _ hs G (lv_sub hl [2, 3, 1, 0] rfl)
  refine lv_iload_n hx hb dX2_harmIn_46 rfl (lv_at hl 0 rfl) ?_
  exact retI C G hs dX2_harmIn_47
-- X2_roomFrom
def rmX2_roomFrom : Room := { frames := 1, cells := 0, slots := 0, locals := 30 }
def fX2_roomFrom_5b (kh : Sg → Int32 → Int32 → Int32 → Option (Int32 × Sg)) (kx : Sg → Int32 → Option (Int32 × Sg)) (σ : Sg) (x2 : Int32) (x3 : Int32) (x4 : Int32) : Option (Int32 × Sg) :=
  gk 4 (dn (σ 3 0)) (fun n_1 => (if (σ n_1 3) ≤ x4 then kx σ x3 else (if inb x4 4 then lt (x3 + (if (σ 15 x4.toNatClampNeg) < x2 then (σ 15 x4.toNatClampNeg) else x2)) (fun x3_4 => lt (x4 + 1) (fun x4_5 => kh σ x2 x3_4 x4_5)) else none)))
set_option maxRecDepth 100000 in
set_option maxHeartbeats 4000000 in
theorem wX2_roomFrom_5b {p : Program} {l : Launch} {e : Env} {s : State} {m : MethodId} {args : Array Value} {below : List Frame} {meth : Method} {c : Code} {D : va_G} {cI cZ cO : ClassId} {b : Nat} (C : Cx p s m args meth c cX2_roomFrom RX2 5 (some .int) D cI cZ cO) {Rr : (Int32 × Sg)} {kh : Sg → Int32 → Int32 → Int32 → Option (Int32 × Sg)} {kx : Sg → Int32 → Option (Int32 × Sg)} (hh : ∀ (σ : Sg) (x2 : Int32) (x3 : Int32) (x4 : Int32) (H : Heap) (locs : List Loc) (ls : Array Slot), kh σ x2 x3 x4 = some Rr → Gd b D cI cZ cO σ s.heap H locs → lv_has ls 5 [(0, .ref (b + 3)), (2, .int x2), (3, .int x3), (4, .int x4)] → W p l e rmX2_roomFrom s m args below meth c H locs 0 0 (MQ below (QI b D cI cZ cO Rr) args s 0 0 (fun q => b ≤ q)) (F0 m 5 ls [])) (hxx : ∀ (σ : Sg) (x3 : Int32) (H : Heap) (locs : List Loc) (ls : Array Slot), kx σ x3 = some Rr → Gd b D cI cZ cO σ s.heap H locs → lv_has ls 5 [(3, .int x3)] → W p l e rmX2_roomFrom s m args below meth c H locs 0 0 (MQ below (QI b D cI cZ cO Rr) args s 0 0 (fun q => b ≤ q)) (F0 m 40 ls [])) {σ : Sg} {x2 : Int32} {x3 : Int32} {x4 : Int32} {H : Heap} {locs : List Loc} {ls : Array Slot} (hs : fX2_roomFrom_5b kh kx σ x2 x3 x4 = some Rr) (G : Gd b D cI cZ cO σ s.heap H locs) (hl : lv_has ls 5 [(0, .ref (b + 3)), (2, .int x2), (3, .int x3), (4, .int x4)]) : W p l e rmX2_roomFrom s m args below meth c H locs 0 0 (MQ below (QI b D cI cZ cO Rr) args s 0 0 (fun q => b ≤ q)) (F0 m 5 ls []) := by
  have hx := C.1
  have hb := C.2.1
  unfold fX2_roomFrom_5b at hs
  refine lv_iload hx hb dX2_roomFrom_5 (lv_at hl 3 rfl) ?_
  refine lv_aload_n hx hb dX2_roomFrom_7 rfl (lv_at hl 0 rfl) ?_
  obtain ⟨n_1, en_1, hk_1, hs⟩ := gkE hs
  refine gf_X2_12 C G kd_3 en_1 dX2_roomFrom_8 ?_
  refine gf_X2_36 C G hk_1 dX2_roomFrom_11 ?_
  refine lv_icmp_ge (tgt := 40) hx hb dX2_roomFrom_14 (by decide) (fun c_2 => ?_) (fun c_2 => ?_)
  · replace hs := ifT c_2 hs
    exact hxx _ _ _ _ _ hs G (lv_sub hl [2] rfl)
  · replace hs := ifF c_2 hs
    refine lv_iload_n hx hb dX2_roomFrom_17 rfl (lv_at hl 2 rfl) ?_
    refine lv_iload_n hx hb dX2_roomFrom_18 rfl (lv_at hl 1 rfl) ?_
    refine lv_aload_n hx hb dX2_roomFrom_19 rfl (lv_at hl 0 rfl) ?_
    refine gf_X2_21 C G kd_3 (n' := 11) rfl dX2_roomFrom_20 ?_
    refine gf_X2_138 C G kd_11 (n' := 15) rfl dX2_roomFrom_23 ?_
    refine lv_iload hx hb dX2_roomFrom_26 (lv_at hl 3 rfl) ?_
    obtain ⟨g_3, hs⟩ := gdE hs
    refine m_iald C G kd_15 ln_15 g_3 dX2_roomFrom_28 ?_
    refine m_min C hl.1 wd_641 (Nat.le_of_ble_eq_true rfl) (Nat.le_of_ble_eq_true rfl) (Nat.le_of_ble_eq_true rfl) (Nat.le_of_ble_eq_true rfl) dX2_roomFrom_29 ?_
    refine lv_iadd hx hb dX2_roomFrom_32 ?_
    refine topI hs (fun x3_4 hs => ?_)
    refine lv_istore_n (lv' := [(3, .int x3_4), (0, .ref (b + 3)), (2, .int x2), (4, .int x4)]) hx hb dX2_roomFrom_33 rfl hl (by decide) rfl (fun ls hl => ?_)
    obtain ⟨x4_5, e_5, hs⟩ := ltE hs
    refine lv_iinc (v := x4_5) (lv' := [(4, .int x4_5), (3, .int x3_4), (0, .ref (b + 3)), (2, .int x2)]) hx hb dX2_roomFrom_34 hl (k := 3) rfl (by rw [e_5]; rfl) (by decide) rfl (fun ls hl => ?_)
    refine lv_goto (tgt := 5) hx hb dX2_roomFrom_37 (by decide) ?_
    exact hh _ _ _ _ _ _ _ hs G (lv_sub hl [2, 3, 1, 0] rfl)
def fX2_roomFrom_5 : Nat → (Sg → Int32 → Option (Int32 × Sg)) → Sg → Int32 → Int32 → Int32 → Option (Int32 × Sg)
  | 0, _, _, _, _, _ => none
  | fu + 1, kx, σ, x2, x3, x4 => fX2_roomFrom_5b (fX2_roomFrom_5 fu kx) kx σ x2 x3 x4
theorem fX2_roomFrom_5_s (fu : Nat) (kx : Sg → Int32 → Option (Int32 × Sg)) (σ : Sg) (x2 : Int32) (x3 : Int32) (x4 : Int32) : fX2_roomFrom_5 (fu + 1) kx σ x2 x3 x4 = fX2_roomFrom_5b (fX2_roomFrom_5 fu kx) kx σ x2 x3 x4 := by rw [fX2_roomFrom_5]
theorem wX2_roomFrom_5 {p : Program} {l : Launch} {e : Env} {s : State} {m : MethodId} {args : Array Value} {below : List Frame} {meth : Method} {c : Code} {D : va_G} {cI cZ cO : ClassId} {b : Nat} (C : Cx p s m args meth c cX2_roomFrom RX2 5 (some .int) D cI cZ cO) {Rr : (Int32 × Sg)} {kx : Sg → Int32 → Option (Int32 × Sg)} (hxx : ∀ (σ : Sg) (x3 : Int32) (H : Heap) (locs : List Loc) (ls : Array Slot), kx σ x3 = some Rr → Gd b D cI cZ cO σ s.heap H locs → lv_has ls 5 [(3, .int x3)] → W p l e rmX2_roomFrom s m args below meth c H locs 0 0 (MQ below (QI b D cI cZ cO Rr) args s 0 0 (fun q => b ≤ q)) (F0 m 40 ls [])) : ∀ (fu : Nat) (σ : Sg) (x2 : Int32) (x3 : Int32) (x4 : Int32) (H : Heap) (locs : List Loc) (ls : Array Slot), fX2_roomFrom_5 fu kx σ x2 x3 x4 = some Rr → Gd b D cI cZ cO σ s.heap H locs → lv_has ls 5 [(0, .ref (b + 3)), (2, .int x2), (3, .int x3), (4, .int x4)] → W p l e rmX2_roomFrom s m args below meth c H locs 0 0 (MQ below (QI b D cI cZ cO Rr) args s 0 0 (fun q => b ≤ q)) (F0 m 5 ls []) := by
  intro fu
  induction fu with
  | zero => intro σ x2 x3 x4 H locs ls hs; cases hs
  | succ fu ih =>
    intro σ x2 x3 x4 H locs ls hs G hl
    exact wX2_roomFrom_5b C (fun σ x2 x3 x4 H locs ls hs G hl => ih σ x2 x3 x4 H locs ls hs G hl) hxx hs G hl
def fX2_roomFrom (σ : Sg) (x1 : Int32) (x2 : Int32) : Option (Int32 × Sg) :=
  fX2_roomFrom_5 FU (fun σ_6 x3_6 => some (x3_6, σ_6)) σ x2 0 x1
set_option maxRecDepth 100000 in
set_option maxHeartbeats 4000000 in
theorem ctX2_roomFrom (l : Launch) {D : va_G} {cI cZ cO : ClassId} {b : Nat} {σ : Sg} {x1 : Int32} {x2 : Int32} {Rr : (Int32 × Sg)} (hs : fX2_roomFrom σ x1 x2 = some Rr) : MI l yX2_roomFrom cX2_roomFrom 5 (some .int) rmX2_roomFrom [.ref (b + 3), .int x1, .int x2] b D cI cZ cO σ Rr := by
  unfold fX2_roomFrom at hs
  refine metI (by decide +kernel) (Nat.le_of_ble_eq_true rfl) (fun p e s m below meth c ls C G hl => ?_)
  have C : Cx p s m _ meth c cX2_roomFrom RX2 5 (some .int) D cI cZ cO := C
  have hx := C.1
  have hb := C.2.1
  have hl : lv_has ls 5 [(0, .ref (b + 3)), (1, .int x1), (2, .int x2)] := hl
  refine lv_iconst (v := 0) hx hb dX2_roomFrom_0 (by decide) ?_
  refine lv_istore_n (lv' := [(3, .int 0), (0, .ref (b + 3)), (1, .int x1), (2, .int x2)]) hx hb dX2_roomFrom_1 rfl hl (by decide) rfl (fun ls hl => ?_)
  refine lv_iload_n hx hb dX2_roomFrom_2 rfl (lv_at hl 2 rfl) ?_
  refine lv_istore (lv' := [(4, .int x1), (3, .int 0), (0, .ref (b + 3)), (1, .int x1), (2, .int x2)]) hx hb dX2_roomFrom_3 hl (by decide) rfl (fun ls hl => ?_)
  refine wX2_roomFrom_5 C (fun σ_6 x3_6 H locs ls hs G hl => ?_) FU _ _ _ _ _ _ _ hs G (lv_sub hl [2, 4, 1, 0] rfl)
  refine lv_iload_n hx hb dX2_roomFrom_40 rfl (lv_at hl 0 rfl) ?_
  exact retI C G hs dX2_roomFrom_41
-- X2_leastCeiling
def rmX2_leastCeiling : Room := { frames := 2, cells := 0, slots := 0, locals := 54 }
def fX2_leastCeiling_2b (kh : Sg → Int32 → Int32 → Option (Int32 × Sg)) (kx : Sg → Option (Int32 × Sg)) (σ : Sg) (x1 : Int32) (x2 : Int32) : Option (Int32 × Sg) :=
  (if 99 < x2 then kx σ else bi (fX2_roomFrom σ 0 x2) (fun r_2 σ_2 => (if r_2 < x1 then lt (x2 + 1) (fun x2_4 => kh σ_2 x1 x2_4) else some (x2, σ_2))))
set_option maxRecDepth 100000 in
set_option maxHeartbeats 4000000 in
theorem wX2_leastCeiling_2b {p : Program} {l : Launch} {e : Env} {s : State} {m : MethodId} {args : Array Value} {below : List Frame} {meth : Method} {c : Code} {D : va_G} {cI cZ cO : ClassId} {b : Nat} (C : Cx p s m args meth c cX2_leastCeiling RX2 3 (some .int) D cI cZ cO) {Rr : (Int32 × Sg)} {kh : Sg → Int32 → Int32 → Option (Int32 × Sg)} {kx : Sg → Option (Int32 × Sg)} (hh : ∀ (σ : Sg) (x1 : Int32) (x2 : Int32) (H : Heap) (locs : List Loc) (ls : Array Slot), kh σ x1 x2 = some Rr → Gd b D cI cZ cO σ s.heap H locs → lv_has ls 3 [(0, .ref (b + 3)), (1, .int x1), (2, .int x2)] → W p l e rmX2_leastCeiling s m args below meth c H locs 0 0 (MQ below (QI b D cI cZ cO Rr) args s 0 0 (fun q => b ≤ q)) (F0 m 2 ls [])) (hxx : ∀ (σ : Sg) (H : Heap) (locs : List Loc) (ls : Array Slot), kx σ = some Rr → Gd b D cI cZ cO σ s.heap H locs → lv_has ls 3 [] → W p l e rmX2_leastCeiling s m args below meth c H locs 0 0 (MQ below (QI b D cI cZ cO Rr) args s 0 0 (fun q => b ≤ q)) (F0 m 26 ls [])) {σ : Sg} {x1 : Int32} {x2 : Int32} {H : Heap} {locs : List Loc} {ls : Array Slot} (hs : fX2_leastCeiling_2b kh kx σ x1 x2 = some Rr) (G : Gd b D cI cZ cO σ s.heap H locs) (hl : lv_has ls 3 [(0, .ref (b + 3)), (1, .int x1), (2, .int x2)]) : W p l e rmX2_leastCeiling s m args below meth c H locs 0 0 (MQ below (QI b D cI cZ cO Rr) args s 0 0 (fun q => b ≤ q)) (F0 m 2 ls []) := by
  have hx := C.1
  have hb := C.2.1
  unfold fX2_leastCeiling_2b at hs
  refine lv_iload_n hx hb dX2_leastCeiling_2 rfl (lv_at hl 2 rfl) ?_
  refine lv_bipush (v := 99) hx hb dX2_leastCeiling_3 (by decide) ?_
  refine lv_icmp_gt (tgt := 26) hx hb dX2_leastCeiling_5 (by decide) (fun c_1 => ?_) (fun c_1 => ?_)
  · replace hs := ifT c_1 hs
    exact hxx _ _ _ _ hs G (lv_sub hl [] rfl)
  · replace hs := ifF c_1 hs
    refine lv_aload_n hx hb dX2_leastCeiling_8 rfl (lv_at hl 0 rfl) ?_
    refine lv_iconst (v := 0) hx hb dX2_leastCeiling_9 (by decide) ?_
    refine lv_iload_n hx hb dX2_leastCeiling_10 rfl (lv_at hl 2 rfl) ?_
    obtain ⟨r_2, σ_2, hc, hs⟩ := biE hs
    refine callVI (ar := 2) (As := [.int 0, .int x2]) (rest := []) C G hl.1 (ctX2_roomFrom _  hc) ⟨wd_807, wd_809, wd_24, wd_71, wd_810⟩ (by decide +kernel) rfl ⟨rfl, rfl⟩ ⟨Nat.le_of_ble_eq_true rfl, Nat.le_of_ble_eq_true rfl⟩ (kd_lt kd_3 (by decide)) (ent_2 b cI cZ cO _ kd_3) rfl (Nat.le_of_ble_eq_true rfl) ⟨Nat.le_of_ble_eq_true rfl, Nat.le_of_ble_eq_true rfl⟩ dX2_leastCeiling_11 rfl (fun H locs G => ?_)
    refine lv_iload_n hx hb dX2_leastCeiling_14 rfl (lv_at hl 1 rfl) ?_
    refine lv_icmp_lt (tgt := 20) hx hb dX2_leastCeiling_15 (by decide) (fun c_3 => ?_) (fun c_3 => ?_)
    · replace hs := ifT c_3 hs
      obtain ⟨x2_4, e_4, hs⟩ := ltE hs
      refine lv_iinc (v := x2_4) (lv' := [(2, .int x2_4), (0, .ref (b + 3)), (1, .int x1)]) hx hb dX2_leastCeiling_20 hl (k := 2) rfl (by rw [e_4]; rfl) (by decide) rfl (fun ls hl => ?_)
      refine lv_goto (tgt := 2) hx hb dX2_leastCeiling_23 (by decide) ?_
      exact hh _ _ _ _ _ _ hs G (lv_sub hl [1, 2, 0] rfl)
    · replace hs := ifF c_3 hs
      refine lv_iload_n hx hb dX2_leastCeiling_18 rfl (lv_at hl 2 rfl) ?_
      exact retI C G hs dX2_leastCeiling_19
def fX2_leastCeiling_2 : Nat → (Sg → Option (Int32 × Sg)) → Sg → Int32 → Int32 → Option (Int32 × Sg)
  | 0, _, _, _, _ => none
  | fu + 1, kx, σ, x1, x2 => fX2_leastCeiling_2b (fX2_leastCeiling_2 fu kx) kx σ x1 x2
theorem fX2_leastCeiling_2_s (fu : Nat) (kx : Sg → Option (Int32 × Sg)) (σ : Sg) (x1 : Int32) (x2 : Int32) : fX2_leastCeiling_2 (fu + 1) kx σ x1 x2 = fX2_leastCeiling_2b (fX2_leastCeiling_2 fu kx) kx σ x1 x2 := by rw [fX2_leastCeiling_2]
theorem wX2_leastCeiling_2 {p : Program} {l : Launch} {e : Env} {s : State} {m : MethodId} {args : Array Value} {below : List Frame} {meth : Method} {c : Code} {D : va_G} {cI cZ cO : ClassId} {b : Nat} (C : Cx p s m args meth c cX2_leastCeiling RX2 3 (some .int) D cI cZ cO) {Rr : (Int32 × Sg)} {kx : Sg → Option (Int32 × Sg)} (hxx : ∀ (σ : Sg) (H : Heap) (locs : List Loc) (ls : Array Slot), kx σ = some Rr → Gd b D cI cZ cO σ s.heap H locs → lv_has ls 3 [] → W p l e rmX2_leastCeiling s m args below meth c H locs 0 0 (MQ below (QI b D cI cZ cO Rr) args s 0 0 (fun q => b ≤ q)) (F0 m 26 ls [])) : ∀ (fu : Nat) (σ : Sg) (x1 : Int32) (x2 : Int32) (H : Heap) (locs : List Loc) (ls : Array Slot), fX2_leastCeiling_2 fu kx σ x1 x2 = some Rr → Gd b D cI cZ cO σ s.heap H locs → lv_has ls 3 [(0, .ref (b + 3)), (1, .int x1), (2, .int x2)] → W p l e rmX2_leastCeiling s m args below meth c H locs 0 0 (MQ below (QI b D cI cZ cO Rr) args s 0 0 (fun q => b ≤ q)) (F0 m 2 ls []) := by
  intro fu
  induction fu with
  | zero => intro σ x1 x2 H locs ls hs; cases hs
  | succ fu ih =>
    intro σ x1 x2 H locs ls hs G hl
    exact wX2_leastCeiling_2b C (fun σ x1 x2 H locs ls hs G hl => ih σ x1 x2 H locs ls hs G hl) hxx hs G hl
def fX2_leastCeiling (σ : Sg) (x1 : Int32) : Option (Int32 × Sg) :=
  fX2_leastCeiling_2 FU (fun σ_5 => some ((-1), σ_5)) σ x1 0
set_option maxRecDepth 100000 in
set_option maxHeartbeats 4000000 in
theorem ctX2_leastCeiling (l : Launch) {D : va_G} {cI cZ cO : ClassId} {b : Nat} {σ : Sg} {x1 : Int32} {Rr : (Int32 × Sg)} (hs : fX2_leastCeiling σ x1 = some Rr) : MI l yX2_leastCeiling cX2_leastCeiling 3 (some .int) rmX2_leastCeiling [.ref (b + 3), .int x1] b D cI cZ cO σ Rr := by
  unfold fX2_leastCeiling at hs
  refine metI (by decide +kernel) (Nat.le_of_ble_eq_true rfl) (fun p e s m below meth c ls C G hl => ?_)
  have C : Cx p s m _ meth c cX2_leastCeiling RX2 3 (some .int) D cI cZ cO := C
  have hx := C.1
  have hb := C.2.1
  have hl : lv_has ls 3 [(0, .ref (b + 3)), (1, .int x1)] := hl
  refine lv_iconst (v := 0) hx hb dX2_leastCeiling_0 (by decide) ?_
  refine lv_istore_n (lv' := [(2, .int 0), (0, .ref (b + 3)), (1, .int x1)]) hx hb dX2_leastCeiling_1 rfl hl (by decide) rfl (fun ls hl => ?_)
  refine wX2_leastCeiling_2 C (fun σ_5 H locs ls hs G hl => ?_) FU _ _ _ _ _ _ hs G (lv_sub hl [1, 2, 0] rfl)
  refine lv_iconst (v := (-1)) hx hb dX2_leastCeiling_26 (by decide) ?_
  exact retI C G hs dX2_leastCeiling_27
-- X2_shareAhead
def rmX2_shareAhead : Room := { frames := 2, cells := 0, slots := 0, locals := 54 }
def fX2_shareAhead (σ : Sg) (x1 : Int32) (x2 : Int32) (x3 : Int32) : Option (Int32 × Sg) :=
  bi (fX2_roomFrom σ (x2 + 1) x3) (fun r_1 σ_1 => some ((if 0 < (x1 - r_1) then (x1 - r_1) else 0), σ_1))
set_option maxRecDepth 100000 in
set_option maxHeartbeats 4000000 in
theorem ctX2_shareAhead (l : Launch) {D : va_G} {cI cZ cO : ClassId} {b : Nat} {σ : Sg} {x1 : Int32} {x2 : Int32} {x3 : Int32} {Rr : (Int32 × Sg)} (hs : fX2_shareAhead σ x1 x2 x3 = some Rr) : MI l yX2_shareAhead cX2_shareAhead 4 (some .int) rmX2_shareAhead [.ref (b + 3), .int x1, .int x2, .int x3] b D cI cZ cO σ Rr := by
  unfold fX2_shareAhead at hs
  refine metI (by decide +kernel) (Nat.le_of_ble_eq_true rfl) (fun p e s m below meth c ls C G hl => ?_)
  have C : Cx p s m _ meth c cX2_shareAhead RX2 4 (some .int) D cI cZ cO := C
  have hx := C.1
  have hb := C.2.1
  have hl : lv_has ls 4 [(0, .ref (b + 3)), (1, .int x1), (2, .int x2), (3, .int x3)] := hl
  refine lv_iconst (v := 0) hx hb dX2_shareAhead_0 (by decide) ?_
  refine lv_iload_n hx hb dX2_shareAhead_1 rfl (lv_at hl 1 rfl) ?_
  refine lv_aload_n hx hb dX2_shareAhead_2 rfl (lv_at hl 0 rfl) ?_
  refine lv_iload_n hx hb dX2_shareAhead_3 rfl (lv_at hl 2 rfl) ?_
  refine lv_iconst (v := 1) hx hb dX2_shareAhead_4 (by decide) ?_
  refine lv_iadd hx hb dX2_shareAhead_5 ?_
  refine lv_iload_n hx hb dX2_shareAhead_6 rfl (lv_at hl 3 rfl) ?_
  obtain ⟨r_1, σ_1, hc, hs⟩ := biE hs
  refine callVI (ar := 2) (As := [.int (x2 + 1), .int x3]) (rest := [.int x1, .int 0]) C G hl.1 (ctX2_roomFrom _  hc) ⟨wd_807, wd_809, wd_24, wd_71, wd_810⟩ (by decide +kernel) rfl ⟨rfl, rfl⟩ ⟨Nat.le_of_ble_eq_true rfl, Nat.le_of_ble_eq_true rfl⟩ (kd_lt kd_3 (by decide)) (ent_2 b cI cZ cO _ kd_3) rfl (Nat.le_of_ble_eq_true rfl) ⟨Nat.le_of_ble_eq_true rfl, Nat.le_of_ble_eq_true rfl⟩ dX2_shareAhead_7 rfl (fun H locs G => ?_)
  refine lv_isub hx hb dX2_shareAhead_10 ?_
  refine m_max C hl.1 wd_679 (Nat.le_of_ble_eq_true rfl) (Nat.le_of_ble_eq_true rfl) (Nat.le_of_ble_eq_true rfl) (Nat.le_of_ble_eq_true rfl) dX2_shareAhead_11 ?_
  exact retI C G hs dX2_shareAhead_14
-- X2_shareOf
def rmX2_shareOf : Room := { frames := 3, cells := 0, slots := 0, locals := 77 }
def fX2_shareOf_19b (kh : Sg → Int32 → Int32 → Int32 → Int32 → Option (Int32 × Sg)) (kx : Sg → Int32 → Int32 → Int32 → Option (Int32 × Sg)) (σ : Sg) (x2 : Int32) (x3 : Int32) (x4 : Int32) (x5 : Int32) : Option (Int32 × Sg) :=
  (if x2 ≤ x5 then kx σ x2 x3 x4 else bi (fX2_shareAhead σ x4 x5 x3) (fun r_4 σ_4 => lt (x4 - r_4) (fun x4_5 => lt (x5 + 1) (fun x5_6 => kh σ_4 x2 x3 x4_5 x5_6))))
set_option maxRecDepth 100000 in
set_option maxHeartbeats 4000000 in
theorem wX2_shareOf_19b {p : Program} {l : Launch} {e : Env} {s : State} {m : MethodId} {args : Array Value} {below : List Frame} {meth : Method} {c : Code} {D : va_G} {cI cZ cO : ClassId} {b : Nat} (C : Cx p s m args meth c cX2_shareOf RX2 6 (some .int) D cI cZ cO) {Rr : (Int32 × Sg)} {kh : Sg → Int32 → Int32 → Int32 → Int32 → Option (Int32 × Sg)} {kx : Sg → Int32 → Int32 → Int32 → Option (Int32 × Sg)} (hh : ∀ (σ : Sg) (x2 : Int32) (x3 : Int32) (x4 : Int32) (x5 : Int32) (H : Heap) (locs : List Loc) (ls : Array Slot), kh σ x2 x3 x4 x5 = some Rr → Gd b D cI cZ cO σ s.heap H locs → lv_has ls 6 [(0, .ref (b + 3)), (2, .int x2), (3, .int x3), (4, .int x4), (5, .int x5)] → W p l e rmX2_shareOf s m args below meth c H locs 0 0 (MQ below (QI b D cI cZ cO Rr) args s 0 0 (fun q => b ≤ q)) (F0 m 19 ls [])) (hxx : ∀ (σ : Sg) (x2 : Int32) (x3 : Int32) (x4 : Int32) (H : Heap) (locs : List Loc) (ls : Array Slot), kx σ x2 x3 x4 = some Rr → Gd b D cI cZ cO σ s.heap H locs → lv_has ls 6 [(0, .ref (b + 3)), (2, .int x2), (3, .int x3), (4, .int x4)] → W p l e rmX2_shareOf s m args below meth c H locs 0 0 (MQ below (QI b D cI cZ cO Rr) args s 0 0 (fun q => b ≤ q)) (F0 m 45 ls [])) {σ : Sg} {x2 : Int32} {x3 : Int32} {x4 : Int32} {x5 : Int32} {H : Heap} {locs : List Loc} {ls : Array Slot} (hs : fX2_shareOf_19b kh kx σ x2 x3 x4 x5 = some Rr) (G : Gd b D cI cZ cO σ s.heap H locs) (hl : lv_has ls 6 [(0, .ref (b + 3)), (2, .int x2), (3, .int x3), (4, .int x4), (5, .int x5)]) : W p l e rmX2_shareOf s m args below meth c H locs 0 0 (MQ below (QI b D cI cZ cO Rr) args s 0 0 (fun q => b ≤ q)) (F0 m 19 ls []) := by
  have hx := C.1
  have hb := C.2.1
  unfold fX2_shareOf_19b at hs
  refine lv_iload hx hb dX2_shareOf_19 (lv_at hl 4 rfl) ?_
  refine lv_iload_n hx hb dX2_shareOf_21 rfl (lv_at hl 1 rfl) ?_
  refine lv_icmp_ge (tgt := 45) hx hb dX2_shareOf_22 (by decide) (fun c_3 => ?_) (fun c_3 => ?_)
  · replace hs := ifT c_3 hs
    exact hxx _ _ _ _ _ _ _ hs G (lv_sub hl [0, 1, 2, 3] rfl)
  · replace hs := ifF c_3 hs
    refine lv_iload hx hb dX2_shareOf_25 (lv_at hl 3 rfl) ?_
    refine lv_aload_n hx hb dX2_shareOf_27 rfl (lv_at hl 0 rfl) ?_
    refine lv_iload hx hb dX2_shareOf_28 (lv_at hl 3 rfl) ?_
    refine lv_iload hx hb dX2_shareOf_30 (lv_at hl 4 rfl) ?_
    refine lv_iload_n hx hb dX2_shareOf_32 rfl (lv_at hl 2 rfl) ?_
    obtain ⟨r_4, σ_4, hc, hs⟩ := biE hs
    refine callVI (ar := 3) (As := [.int x4, .int x5, .int x3]) (rest := [.int x4]) C G hl.1 (ctX2_shareAhead _  hc) ⟨wd_811, wd_813, wd_25, wd_71, wd_814⟩ (by decide +kernel) rfl ⟨rfl, rfl⟩ ⟨Nat.le_of_ble_eq_true rfl, Nat.le_of_ble_eq_true rfl⟩ (kd_lt kd_3 (by decide)) (ent_2 b cI cZ cO _ kd_3) rfl (Nat.le_of_ble_eq_true rfl) ⟨Nat.le_of_ble_eq_true rfl, Nat.le_of_ble_eq_true rfl⟩ dX2_shareOf_33 rfl (fun H locs G => ?_)
    refine lv_isub hx hb dX2_shareOf_36 ?_
    refine topI hs (fun x4_5 hs => ?_)
    refine lv_istore (lv' := [(4, .int x4_5), (0, .ref (b + 3)), (2, .int x2), (3, .int x3), (5, .int x5)]) hx hb dX2_shareOf_37 hl (by decide) rfl (fun ls hl => ?_)
    obtain ⟨x5_6, e_6, hs⟩ := ltE hs
    refine lv_iinc (v := x5_6) (lv' := [(5, .int x5_6), (4, .int x4_5), (0, .ref (b + 3)), (2, .int x2), (3, .int x3)]) hx hb dX2_shareOf_39 hl (k := 4) rfl (by rw [e_6]; rfl) (by decide) rfl (fun ls hl => ?_)
    refine lv_goto (tgt := 19) hx hb dX2_shareOf_42 (by decide) ?_
    exact hh _ _ _ _ _ _ _ _ hs G (lv_sub hl [2, 3, 4, 1, 0] rfl)
def fX2_shareOf_19 : Nat → (Sg → Int32 → Int32 → Int32 → Option (Int32 × Sg)) → Sg → Int32 → Int32 → Int32 → Int32 → Option (Int32 × Sg)
  | 0, _, _, _, _, _, _ => none
  | fu + 1, kx, σ, x2, x3, x4, x5 => fX2_shareOf_19b (fX2_shareOf_19 fu kx) kx σ x2 x3 x4 x5
theorem fX2_shareOf_19_s (fu : Nat) (kx : Sg → Int32 → Int32 → Int32 → Option (Int32 × Sg)) (σ : Sg) (x2 : Int32) (x3 : Int32) (x4 : Int32) (x5 : Int32) : fX2_shareOf_19 (fu + 1) kx σ x2 x3 x4 x5 = fX2_shareOf_19b (fX2_shareOf_19 fu kx) kx σ x2 x3 x4 x5 := by rw [fX2_shareOf_19]
theorem wX2_shareOf_19 {p : Program} {l : Launch} {e : Env} {s : State} {m : MethodId} {args : Array Value} {below : List Frame} {meth : Method} {c : Code} {D : va_G} {cI cZ cO : ClassId} {b : Nat} (C : Cx p s m args meth c cX2_shareOf RX2 6 (some .int) D cI cZ cO) {Rr : (Int32 × Sg)} {kx : Sg → Int32 → Int32 → Int32 → Option (Int32 × Sg)} (hxx : ∀ (σ : Sg) (x2 : Int32) (x3 : Int32) (x4 : Int32) (H : Heap) (locs : List Loc) (ls : Array Slot), kx σ x2 x3 x4 = some Rr → Gd b D cI cZ cO σ s.heap H locs → lv_has ls 6 [(0, .ref (b + 3)), (2, .int x2), (3, .int x3), (4, .int x4)] → W p l e rmX2_shareOf s m args below meth c H locs 0 0 (MQ below (QI b D cI cZ cO Rr) args s 0 0 (fun q => b ≤ q)) (F0 m 45 ls [])) : ∀ (fu : Nat) (σ : Sg) (x2 : Int32) (x3 : Int32) (x4 : Int32) (x5 : Int32) (H : Heap) (locs : List Loc) (ls : Array Slot), fX2_shareOf_19 fu kx σ x2 x3 x4 x5 = some Rr → Gd b D cI cZ cO σ s.heap H locs → lv_has ls 6 [(0, .ref (b + 3)), (2, .int x2), (3, .int x3), (4, .int x4), (5, .int x5)] → W p l e rmX2_shareOf s m args below meth c H locs 0 0 (MQ below (QI b D cI cZ cO Rr) args s 0 0 (fun q => b ≤ q)) (F0 m 19 ls []) := by
  intro fu
  induction fu with
  | zero => intro σ x2 x3 x4 x5 H locs ls hs; cases hs
  | succ fu ih =>
    intro σ x2 x3 x4 x5 H locs ls hs G hl
    exact wX2_shareOf_19b C (fun σ x2 x3 x4 x5 H locs ls hs G hl => ih σ x2 x3 x4 x5 H locs ls hs G hl) hxx hs G hl
def fX2_shareOf (σ : Sg) (x1 : Int32) (x2 : Int32) : Option (Int32 × Sg) :=
  bi (fX2_leastCeiling σ x1) (fun r_1 σ_1 => (if r_1 = (-1) then some ((-1), σ_1) else fX2_shareOf_19 FU (fun σ_7 x2_7 x3_7 x4_7 => bi (fX2_shareAhead σ_7 x4_7 x2_7 x3_7) (fun r_8 σ_8 => some (r_8, σ_8))) σ_1 x2 r_1 x1 0))
set_option maxRecDepth 100000 in
set_option maxHeartbeats 4000000 in
theorem ctX2_shareOf (l : Launch) {D : va_G} {cI cZ cO : ClassId} {b : Nat} {σ : Sg} {x1 : Int32} {x2 : Int32} {Rr : (Int32 × Sg)} (hs : fX2_shareOf σ x1 x2 = some Rr) : MI l yX2_shareOf cX2_shareOf 6 (some .int) rmX2_shareOf [.ref (b + 3), .int x1, .int x2] b D cI cZ cO σ Rr := by
  unfold fX2_shareOf at hs
  refine metI (by decide +kernel) (Nat.le_of_ble_eq_true rfl) (fun p e s m below meth c ls C G hl => ?_)
  have C : Cx p s m _ meth c cX2_shareOf RX2 6 (some .int) D cI cZ cO := C
  have hx := C.1
  have hb := C.2.1
  have hl : lv_has ls 6 [(0, .ref (b + 3)), (1, .int x1), (2, .int x2)] := hl
  refine lv_aload_n hx hb dX2_shareOf_0 rfl (lv_at hl 0 rfl) ?_
  refine lv_iload_n hx hb dX2_shareOf_1 rfl (lv_at hl 1 rfl) ?_
  obtain ⟨r_1, σ_1, hc, hs⟩ := biE hs
  refine callVI (ar := 1) (As := [.int x1]) (rest := []) C G hl.1 (ctX2_leastCeiling _  hc) ⟨wd_803, wd_805, wd_23, wd_71, wd_806⟩ (by decide +kernel) rfl ⟨rfl, rfl⟩ ⟨Nat.le_of_ble_eq_true rfl, Nat.le_of_ble_eq_true rfl⟩ (kd_lt kd_3 (by decide)) (ent_2 b cI cZ cO _ kd_3) rfl (Nat.le_of_ble_eq_true rfl) ⟨Nat.le_of_ble_eq_true rfl, Nat.le_of_ble_eq_true rfl⟩ dX2_shareOf_2 rfl (fun H locs G => ?_)
  refine lv_istore_n (lv' := [(3, .int r_1), (0, .ref (b + 3)), (1, .int x1), (2, .int x2)]) hx hb dX2_shareOf_5 rfl hl (by decide) rfl (fun ls hl => ?_)
  refine lv_iload_n hx hb dX2_shareOf_6 rfl (lv_at hl 0 rfl) ?_
  refine lv_iconst (v := (-1)) hx hb dX2_shareOf_7 (by decide) ?_
  refine lv_icmp_ne (tgt := 13) hx hb dX2_shareOf_8 (by decide) (fun c_2 => ?_) (fun c_2 => ?_)
  · replace hs := ifF c_2 hs
    refine lv_iload_n hx hb dX2_shareOf_13 rfl (lv_at hl 2 rfl) ?_
    refine lv_istore (lv' := [(4, .int x1), (3, .int r_1), (0, .ref (b + 3)), (1, .int x1), (2, .int x2)]) hx hb dX2_shareOf_14 hl (by decide) rfl (fun ls hl => ?_)
    refine lv_iconst (v := 0) hx hb dX2_shareOf_16 (by decide) ?_
    refine lv_istore (lv' := [(5, .int 0), (4, .int x1), (3, .int r_1), (0, .ref (b + 3)), (1, .int x1), (2, .int x2)]) hx hb dX2_shareOf_17 hl (by decide) rfl (fun ls hl => ?_)
    refine wX2_shareOf_19 C (fun σ_7 x2_7 x3_7 x4_7 H locs ls hs G hl => ?_) FU _ _ _ _ _ _ _ _ hs G (lv_sub hl [3, 5, 2, 1, 0] rfl)
    refine lv_aload_n hx hb dX2_shareOf_45 rfl (lv_at hl 0 rfl) ?_
    refine lv_iload hx hb dX2_shareOf_46 (lv_at hl 3 rfl) ?_
    refine lv_iload_n hx hb dX2_shareOf_48 rfl (lv_at hl 1 rfl) ?_
    refine lv_iload_n hx hb dX2_shareOf_49 rfl (lv_at hl 2 rfl) ?_
    obtain ⟨r_8, σ_8, hc, hs⟩ := biE hs
    refine callVI (ar := 3) (As := [.int x4_7, .int x2_7, .int x3_7]) (rest := []) C G hl.1 (ctX2_shareAhead _  hc) ⟨wd_811, wd_813, wd_25, wd_71, wd_814⟩ (by decide +kernel) rfl ⟨rfl, rfl⟩ ⟨Nat.le_of_ble_eq_true rfl, Nat.le_of_ble_eq_true rfl⟩ (kd_lt kd_3 (by decide)) (ent_2 b cI cZ cO _ kd_3) rfl (Nat.le_of_ble_eq_true rfl) ⟨Nat.le_of_ble_eq_true rfl, Nat.le_of_ble_eq_true rfl⟩ dX2_shareOf_50 rfl (fun H locs G => ?_)
    exact retI C G hs dX2_shareOf_53
  · replace hs := ifT c_2 hs
    refine lv_iconst (v := (-1)) hx hb dX2_shareOf_11 (by decide) ?_
    exact retI C G hs dX2_shareOf_12
-- J7_fill_53178
def rmJ7_fill_53178 : Room := { frames := 0, cells := 0, slots := 0, locals := 0 }
def fJ7_fill_53178_5b (n0 : Nat) (kh : Sg → Int32 → Int32 → Int32 → Option Sg) (kx : Sg → Option Sg) (σ : Sg) (x1 : Int32) (x2 : Int32) (x3 : Int32) : Option Sg :=
  (if x3 ≤ x2 then kx σ else (if inb x2 (ln n0) then lt (st σ n0 x2.toNatClampNeg x1) (fun σ_3 => lt (x2 + 1) (fun x2_4 => kh σ_3 x1 x2_4 x3)) else none))
set_option maxRecDepth 100000 in
set_option maxHeartbeats 4000000 in
theorem wJ7_fill_53178_5b {p : Program} {l : Launch} {e : Env} {s : State} {m : MethodId} {args : Array Value} {below : List Frame} {meth : Method} {c : Code} {D : va_G} {cI cZ cO : ClassId} {b : Nat} (C : Cx p s m args meth c cJ7_fill_53178 RJ7 4 none D cI cZ cO) {n0 : Nat} (hk0 : kd n0 = 13) {Rr : Sg} {kh : Sg → Int32 → Int32 → Int32 → Option Sg} {kx : Sg → Option Sg} (hh : ∀ (σ : Sg) (x1 : Int32) (x2 : Int32) (x3 : Int32) (H : Heap) (locs : List Loc) (ls : Array Slot), kh σ x1 x2 x3 = some Rr → Gd b D cI cZ cO σ s.heap H locs → lv_has ls 4 [(0, .ref (b + n0)), (1, .int x1), (2, .int x2), (3, .int x3)] → W p l e rmJ7_fill_53178 s m args below meth c H locs 0 0 (MQ below (QV b D cI cZ cO Rr) args s 0 0 (fun q => b ≤ q)) (F0 m 5 ls [])) (hxx : ∀ (σ : Sg) (H : Heap) (locs : List Loc) (ls : Array Slot), kx σ = some Rr → Gd b D cI cZ cO σ s.heap H locs → lv_has ls 4 [] → W p l e rmJ7_fill_53178 s m args below meth c H locs 0 0 (MQ below (QV b D cI cZ cO Rr) args s 0 0 (fun q => b ≤ q)) (F0 m 20 ls [])) {σ : Sg} {x1 : Int32} {x2 : Int32} {x3 : Int32} {H : Heap} {locs : List Loc} {ls : Array Slot} (hs : fJ7_fill_53178_5b n0 kh kx σ x1 x2 x3 = some Rr) (G : Gd b D cI cZ cO σ s.heap H locs) (hl : lv_has ls 4 [(0, .ref (b + n0)), (1, .int x1), (2, .int x2), (3, .int x3)]) : W p l e rmJ7_fill_53178 s m args below meth c H locs 0 0 (MQ below (QV b D cI cZ cO Rr) args s 0 0 (fun q => b ≤ q)) (F0 m 5 ls []) := by
  have hx := C.1
  have hb := C.2.1
  unfold fJ7_fill_53178_5b at hs
  refine lv_iload_n hx hb dJ7_fill_53178_5 rfl (lv_at hl 2 rfl) ?_
  refine lv_iload_n hx hb dJ7_fill_53178_6 rfl (lv_at hl 3 rfl) ?_
  refine lv_icmp_ge (tgt := 20) hx hb dJ7_fill_53178_7 (by decide) (fun c_2 => ?_) (fun c_2 => ?_)
  · replace hs := ifT c_2 hs
    exact hxx _ _ _ _ hs G (lv_sub hl [] rfl)
  · replace hs := ifF c_2 hs
    refine lv_aload_n hx hb dJ7_fill_53178_10 rfl (lv_at hl 0 rfl) ?_
    refine lv_iload_n hx hb dJ7_fill_53178_11 rfl (lv_at hl 2 rfl) ?_
    refine lv_iload_n hx hb dJ7_fill_53178_12 rfl (lv_at hl 1 rfl) ?_
    obtain ⟨g_3, hs⟩ := gdE hs
    refine m_iast C G hk0 rfl g_3 hs dJ7_fill_53178_13 (fun σ_3 H locs hs G => ?_)
    obtain ⟨x2_4, e_4, hs⟩ := ltE hs
    refine lv_iinc (v := x2_4) (lv' := [(2, .int x2_4), (0, .ref (b + n0)), (1, .int x1), (3, .int x3)]) hx hb dJ7_fill_53178_14 hl (k := 2) rfl (by rw [e_4]; rfl) (by decide) rfl (fun ls hl => ?_)
    refine lv_goto (tgt := 5) hx hb dJ7_fill_53178_17 (by decide) ?_
    exact hh _ _ _ _ _ _ _ hs G (lv_sub hl [1, 2, 0, 3] rfl)
def fJ7_fill_53178_5 (n0 : Nat) : Nat → (Sg → Option Sg) → Sg → Int32 → Int32 → Int32 → Option Sg
  | 0, _, _, _, _, _ => none
  | fu + 1, kx, σ, x1, x2, x3 => fJ7_fill_53178_5b n0 (fJ7_fill_53178_5 n0 fu kx) kx σ x1 x2 x3
theorem fJ7_fill_53178_5_s (n0 : Nat) (fu : Nat) (kx : Sg → Option Sg) (σ : Sg) (x1 : Int32) (x2 : Int32) (x3 : Int32) : fJ7_fill_53178_5 n0 (fu + 1) kx σ x1 x2 x3 = fJ7_fill_53178_5b n0 (fJ7_fill_53178_5 n0 fu kx) kx σ x1 x2 x3 := by rw [fJ7_fill_53178_5]
theorem wJ7_fill_53178_5 {p : Program} {l : Launch} {e : Env} {s : State} {m : MethodId} {args : Array Value} {below : List Frame} {meth : Method} {c : Code} {D : va_G} {cI cZ cO : ClassId} {b : Nat} (C : Cx p s m args meth c cJ7_fill_53178 RJ7 4 none D cI cZ cO) {n0 : Nat} (hk0 : kd n0 = 13) {Rr : Sg} {kx : Sg → Option Sg} (hxx : ∀ (σ : Sg) (H : Heap) (locs : List Loc) (ls : Array Slot), kx σ = some Rr → Gd b D cI cZ cO σ s.heap H locs → lv_has ls 4 [] → W p l e rmJ7_fill_53178 s m args below meth c H locs 0 0 (MQ below (QV b D cI cZ cO Rr) args s 0 0 (fun q => b ≤ q)) (F0 m 20 ls [])) : ∀ (fu : Nat) (σ : Sg) (x1 : Int32) (x2 : Int32) (x3 : Int32) (H : Heap) (locs : List Loc) (ls : Array Slot), fJ7_fill_53178_5 n0 fu kx σ x1 x2 x3 = some Rr → Gd b D cI cZ cO σ s.heap H locs → lv_has ls 4 [(0, .ref (b + n0)), (1, .int x1), (2, .int x2), (3, .int x3)] → W p l e rmJ7_fill_53178 s m args below meth c H locs 0 0 (MQ below (QV b D cI cZ cO Rr) args s 0 0 (fun q => b ≤ q)) (F0 m 5 ls []) := by
  intro fu
  induction fu with
  | zero => intro σ x1 x2 x3 H locs ls hs; cases hs
  | succ fu ih =>
    intro σ x1 x2 x3 H locs ls hs G hl
    exact wJ7_fill_53178_5b C hk0 (fun σ x1 x2 x3 H locs ls hs G hl => ih σ x1 x2 x3 H locs ls hs G hl) hxx hs G hl
def fJ7_fill_53178 (n0 : Nat) (σ : Sg) (x1 : Int32) : Option Sg :=
  lt (nI (ln n0)) (fun x3_1 => fJ7_fill_53178_5 n0 FU (fun σ_5 => some σ_5) σ x1 0 x3_1)
set_option maxRecDepth 100000 in
set_option maxHeartbeats 4000000 in
theorem ctJ7_fill_53178 (l : Launch) {n0 : Nat} (hk0 : kd n0 = 13) {D : va_G} {cI cZ cO : ClassId} {b : Nat} {σ : Sg} {x1 : Int32} {Rr : Sg} (hs : fJ7_fill_53178 n0 σ x1 = some Rr) : MV l yJ7_fill_53178 cJ7_fill_53178 4 rmJ7_fill_53178 [.ref (b + n0), .int x1] b D cI cZ cO σ Rr := by
  unfold fJ7_fill_53178 at hs
  refine metV (by decide +kernel) (Nat.le_of_ble_eq_true rfl) (fun p e s m below meth c ls C G hl => ?_)
  have C : Cx p s m _ meth c cJ7_fill_53178 RJ7 4 none D cI cZ cO := C
  have hx := C.1
  have hb := C.2.1
  have hl : lv_has ls 4 [(0, .ref (b + n0)), (1, .int x1)] := hl
  refine lv_iconst (v := 0) hx hb dJ7_fill_53178_0 (by decide) ?_
  refine lv_istore_n (lv' := [(2, .int 0), (0, .ref (b + n0)), (1, .int x1)]) hx hb dJ7_fill_53178_1 rfl hl (by decide) rfl (fun ls hl => ?_)
  refine lv_aload_n hx hb dJ7_fill_53178_2 rfl (lv_at hl 1 rfl) ?_
  refine m_alen C G hk0 dJ7_fill_53178_3 ?_
  refine topI hs (fun x3_1 hs => ?_)
  refine lv_istore_n (lv' := [(3, .int x3_1), (2, .int 0), (0, .ref (b + n0)), (1, .int x1)]) hx hb dJ7_fill_53178_4 rfl hl (by decide) rfl (fun ls hl => ?_)
  refine wJ7_fill_53178_5 C hk0 (fun σ_5 H locs ls hs G hl => ?_) FU _ _ _ _ _ _ _ hs G (lv_sub hl [2, 3, 1, 0] rfl)
  exact retV C G hs dJ7_fill_53178_20
-- X4_clear
def rmX4_clear : Room := { frames := 1, cells := 0, slots := 0, locals := 23 }
def fX4_clear (n0 : Nat) (σ : Sg) : Option Sg :=
  lt (st σ n0 0 0) (fun σ_1 => lt (st σ_1 n0 1 0) (fun σ_2 => lt (st σ_2 n0 2 0) (fun σ_3 => lt (st σ_3 n0 3 0) (fun σ_4 => lt (st σ_4 n0 4 0) (fun σ_5 => bv (fJ7_fill_53178 (n0 + 6) σ_5 0) (fun σ_6 => some σ_6))))))
set_option maxRecDepth 100000 in
set_option maxHeartbeats 4000000 in
theorem ctX4_clear (l : Launch) {n0 : Nat} (hk0 : kd n0 = 4) {D : va_G} {cI cZ cO : ClassId} {b : Nat} {σ : Sg} {Rr : Sg} (hs : fX4_clear n0 σ = some Rr) : MV l yX4_clear cX4_clear 1 rmX4_clear [.ref (b + n0)] b D cI cZ cO σ Rr := by
  unfold fX4_clear at hs
  refine metV (by decide +kernel) (Nat.le_of_ble_eq_true rfl) (fun p e s m below meth c ls C G hl => ?_)
  have C : Cx p s m _ meth c cX4_clear RX4 1 none D cI cZ cO := C
  have hx := C.1
  have hb := C.2.1
  have hl : lv_has ls 1 [(0, .ref (b + n0))] := hl
  refine lv_aload_n hx hb dX4_clear_0 rfl (lv_at hl 0 rfl) ?_
  refine lv_iconst (v := 0) hx hb dX4_clear_1 (by decide) ?_
  refine pf_X4_30 C G hk0 (by decide) hs dX4_clear_2 (fun σ_1 H locs hs G => ?_)
  refine lv_aload_n hx hb dX4_clear_5 rfl (lv_at hl 0 rfl) ?_
  refine lv_iconst (v := 0) hx hb dX4_clear_6 (by decide) ?_
  refine pf_X4_34 C G hk0 hs dX4_clear_7 (fun σ_2 H locs hs G => ?_)
  refine lv_aload_n hx hb dX4_clear_10 rfl (lv_at hl 0 rfl) ?_
  refine lv_iconst (v := 0) hx hb dX4_clear_11 (by decide) ?_
  refine pf_X4_38 C G hk0 hs dX4_clear_12 (fun σ_3 H locs hs G => ?_)
  refine lv_aload_n hx hb dX4_clear_15 rfl (lv_at hl 0 rfl) ?_
  refine lv_iconst (v := 0) hx hb dX4_clear_16 (by decide) ?_
  refine pf_X4_41 C G hk0 hs dX4_clear_17 (fun σ_4 H locs hs G => ?_)
  refine lv_aload_n hx hb dX4_clear_20 rfl (lv_at hl 0 rfl) ?_
  refine lv_iconst (v := 0) hx hb dX4_clear_21 (by decide) ?_
  refine pf_X4_44 C G hk0 hs dX4_clear_22 (fun σ_5 H locs hs G => ?_)
  refine lv_aload_n hx hb dX4_clear_25 rfl (lv_at hl 0 rfl) ?_
  refine gf_X4_27 C G hk0 (n' := (n0 + 6)) rfl dX4_clear_26 ?_
  refine lv_iconst (v := 0) hx hb dX4_clear_29 (by decide) ?_
  obtain ⟨σ_6, hc, hs⟩ := bvE hs
  refine callSV (ar := 2) (As := [.ref (b + (n0 + 6)), .int 0]) (rest := []) C G hl.1 (ctJ7_fill_53178 _ (kH6 hk0) hc) ⟨wd_440, wd_441, wd_82, wd_442⟩ (by decide +kernel) rfl ⟨rfl, rfl⟩ ⟨Nat.le_of_ble_eq_true rfl, Nat.le_of_ble_eq_true rfl⟩ (Nat.le_of_ble_eq_true rfl) ⟨Nat.le_of_ble_eq_true rfl, Nat.le_of_ble_eq_true rfl⟩ dX4_clear_30 rfl (fun H locs G => ?_)
  exact retV C G hs dX4_clear_33
-- X4_addVillage
def rmX4_addVillage : Room := { frames := 0, cells := 0, slots := 0, locals := 0 }
def fX4_addVillage (n0 : Nat) (σ : Sg) (x1 : Int32) : Option Sg :=
  (if (σ n0 3) < 4 then (if inb (σ n0 3) 4 then lt (st σ (n0 + 5) (σ n0 3).toNatClampNeg x1) (fun σ_2 => lt (st σ_2 n0 3 ((σ_2 n0 3) + 1)) (fun σ_3 => some σ_3)) else none) else some σ)
set_option maxRecDepth 100000 in
set_option maxHeartbeats 4000000 in
theorem ctX4_addVillage (l : Launch) {n0 : Nat} (hk0 : kd n0 = 4) {D : va_G} {cI cZ cO : ClassId} {b : Nat} {σ : Sg} {x1 : Int32} {Rr : Sg} (hs : fX4_addVillage n0 σ x1 = some Rr) : MV l yX4_addVillage cX4_addVillage 2 rmX4_addVillage [.ref (b + n0), .int x1] b D cI cZ cO σ Rr := by
  unfold fX4_addVillage at hs
  refine metV (by decide +kernel) (Nat.le_of_ble_eq_true rfl) (fun p e s m below meth c ls C G hl => ?_)
  have C : Cx p s m _ meth c cX4_addVillage RX4 2 none D cI cZ cO := C
  have hx := C.1
  have hb := C.2.1
  have hl : lv_has ls 2 [(0, .ref (b + n0)), (1, .int x1)] := hl
  refine lv_aload_n hx hb dX4_addVillage_0 rfl (lv_at hl 0 rfl) ?_
  refine gf_X4_41 C G hk0 dX4_addVillage_1 ?_
  refine lv_iconst (v := 4) hx hb dX4_addVillage_4 (by decide) ?_
  refine lv_icmp_lt (tgt := 9) hx hb dX4_addVillage_5 (by decide) (fun c_1 => ?_) (fun c_1 => ?_)
  · replace hs := ifT c_1 hs
    refine lv_aload_n hx hb dX4_addVillage_9 rfl (lv_at hl 0 rfl) ?_
    refine gf_X4_24 C G hk0 (n' := (n0 + 5)) rfl dX4_addVillage_10 ?_
    refine lv_aload_n hx hb dX4_addVillage_13 rfl (lv_at hl 0 rfl) ?_
    refine gf_X4_41 C G hk0 dX4_addVillage_14 ?_
    refine lv_iload_n hx hb dX4_addVillage_17 rfl (lv_at hl 1 rfl) ?_
    obtain ⟨g_2, hs⟩ := gdE hs
    refine m_iast C G (kH5 hk0) (lH5 hk0) g_2 hs dX4_addVillage_18 (fun σ_2 H locs hs G => ?_)
    refine lv_aload_n hx hb dX4_addVillage_19 rfl (lv_at hl 0 rfl) ?_
    refine lv_dup hx hb dX4_addVillage_20 rfl ?_
    refine gf_X4_41 C G hk0 dX4_addVillage_21 ?_
    refine lv_iconst (v := 1) hx hb dX4_addVillage_24 (by decide) ?_
    refine lv_iadd hx hb dX4_addVillage_25 ?_
    refine pf_X4_41 C G hk0 hs dX4_addVillage_26 (fun σ_3 H locs hs G => ?_)
    exact retV C G hs dX4_addVillage_29
  · replace hs := ifF c_1 hs
    exact retV C G hs dX4_addVillage_8
-- X4_addPerson
def rmX4_addPerson : Room := { frames := 0, cells := 0, slots := 0, locals := 0 }
def fX4_addPerson (n0 : Nat) (σ : Sg) (x1 : Int32) (x2 : Int32) (x3 : Int32) (x4 : Int32) : Option Sg :=
  (if 7 ≤ (σ n0 4) then some σ else (if x2 < 0 then some σ else (if x2 < (σ n0 3) then (if inb (σ n0 4) 7 then lt (st σ (n0 + 1) (σ n0 4).toNatClampNeg x1) (fun σ_4 => (if inb (σ_4 n0 4) 7 then lt (st σ_4 (n0 + 2) (σ_4 n0 4).toNatClampNeg x2) (fun σ_5 => (if inb (σ_5 n0 4) 7 then lt (st σ_5 (n0 + 3) (σ_5 n0 4).toNatClampNeg x3) (fun σ_6 => (if inb (σ_6 n0 4) 7 then lt (st σ_6 (n0 + 4) (σ_6 n0 4).toNatClampNeg x4) (fun σ_7 => (if inb x2 4 then (if inb x2 4 then lt (st σ_7 (n0 + 6) x2.toNatClampNeg ((σ_7 (n0 + 6) x2.toNatClampNeg) ||| ((1 : Int32) <<< ((σ_7 n0 4) &&& 31)))) (fun σ_9 => lt (st σ_9 n0 4 ((σ_9 n0 4) + 1)) (fun σ_10 => some σ_10)) else none) else none)) else none)) else none)) else none)) else none) else some σ)))
set_option maxRecDepth 100000 in
set_option maxHeartbeats 4000000 in
theorem ctX4_addPerson (l : Launch) {n0 : Nat} (hk0 : kd n0 = 4) {D : va_G} {cI cZ cO : ClassId} {b : Nat} {σ : Sg} {x1 : Int32} {x2 : Int32} {x3 : Int32} {x4 : Int32} {Rr : Sg} (hs : fX4_addPerson n0 σ x1 x2 x3 x4 = some Rr) : MV l yX4_addPerson cX4_addPerson 5 rmX4_addPerson [.ref (b + n0), .int x1, .int x2, .int x3, .int x4] b D cI cZ cO σ Rr := by
  unfold fX4_addPerson at hs
  refine metV (by decide +kernel) (Nat.le_of_ble_eq_true rfl) (fun p e s m below meth c ls C G hl => ?_)
  have C : Cx p s m _ meth c cX4_addPerson RX4 5 none D cI cZ cO := C
  have hx := C.1
  have hb := C.2.1
  have hl : lv_has ls 5 [(0, .ref (b + n0)), (1, .int x1), (2, .int x2), (3, .int x3), (4, .int x4)] := hl
  refine lv_aload_n hx hb dX4_addPerson_0 rfl (lv_at hl 0 rfl) ?_
  refine gf_X4_44 C G hk0 dX4_addPerson_1 ?_
  refine lv_bipush (v := 7) hx hb dX4_addPerson_4 (by decide) ?_
  refine lv_icmp_ge (tgt := 21) hx hb dX4_addPerson_6 (by decide) (fun c_1 => ?_) (fun c_1 => ?_)
  · replace hs := ifT c_1 hs
    exact retV C G hs dX4_addPerson_21
  · replace hs := ifF c_1 hs
    refine lv_iload_n hx hb dX4_addPerson_9 rfl (lv_at hl 2 rfl) ?_
    refine lv_if_lt (tgt := 21) hx hb dX4_addPerson_10 (by decide) (fun c_2 => ?_) (fun c_2 => ?_)
    · replace hs := ifT c_2 hs
      exact retV C G hs dX4_addPerson_21
    · replace hs := ifF c_2 hs
      refine lv_iload_n hx hb dX4_addPerson_13 rfl (lv_at hl 2 rfl) ?_
      refine lv_aload_n hx hb dX4_addPerson_14 rfl (lv_at hl 0 rfl) ?_
      refine gf_X4_41 C G hk0 dX4_addPerson_15 ?_
      refine lv_icmp_lt (tgt := 22) hx hb dX4_addPerson_18 (by decide) (fun c_3 => ?_) (fun c_3 => ?_)
      · replace hs := ifT c_3 hs
        refine lv_aload_n hx hb dX4_addPerson_22 rfl (lv_at hl 0 rfl) ?_
        refine gf_X4_9 C G hk0 (n' := (n0 + 1)) rfl dX4_addPerson_23 ?_
        refine lv_aload_n hx hb dX4_addPerson_26 rfl (lv_at hl 0 rfl) ?_
        refine gf_X4_44 C G hk0 dX4_addPerson_27 ?_
        refine lv_iload_n hx hb dX4_addPerson_30 rfl (lv_at hl 1 rfl) ?_
        obtain ⟨g_4, hs⟩ := gdE hs
        refine m_iast C G (kH1 hk0) (lH1 hk0) g_4 hs dX4_addPerson_31 (fun σ_4 H locs hs G => ?_)
        refine lv_aload_n hx hb dX4_addPerson_32 rfl (lv_at hl 0 rfl) ?_
        refine gf_X4_15 C G hk0 (n' := (n0 + 2)) rfl dX4_addPerson_33 ?_
        refine lv_aload_n hx hb dX4_addPerson_36 rfl (lv_at hl 0 rfl) ?_
        refine gf_X4_44 C G hk0 dX4_addPerson_37 ?_
        refine lv_iload_n hx hb dX4_addPerson_40 rfl (lv_at hl 2 rfl) ?_
        obtain ⟨g_5, hs⟩ := gdE hs
        refine m_iast C G (kH2 hk0) (lH2 hk0) g_5 hs dX4_addPerson_41 (fun σ_5 H locs hs G => ?_)
        refine lv_aload_n hx hb dX4_addPerson_42 rfl (lv_at hl 0 rfl) ?_
        refine gf_X4_18 C G hk0 (n' := (n0 + 3)) rfl dX4_addPerson_43 ?_
        refine lv_aload_n hx hb dX4_addPerson_46 rfl (lv_at hl 0 rfl) ?_
        refine gf_X4_44 C G hk0 dX4_addPerson_47 ?_
        refine lv_iload_n hx hb dX4_addPerson_50 rfl (lv_at hl 3 rfl) ?_
        obtain ⟨g_6, hs⟩ := gdE hs
        refine m_iast C G (kH3 hk0) (lH3 hk0) g_6 hs dX4_addPerson_51 (fun σ_6 H locs hs G => ?_)
        refine lv_aload_n hx hb dX4_addPerson_52 rfl (lv_at hl 0 rfl) ?_
        refine gf_X4_21 C G hk0 (n' := (n0 + 4)) rfl dX4_addPerson_53 ?_
        refine lv_aload_n hx hb dX4_addPerson_56 rfl (lv_at hl 0 rfl) ?_
        refine gf_X4_44 C G hk0 dX4_addPerson_57 ?_
        refine lv_iload hx hb dX4_addPerson_60 (lv_at hl 4 rfl) ?_
        obtain ⟨g_7, hs⟩ := gdE hs
        refine m_iast C G (kH4 hk0) (lH4 hk0) g_7 hs dX4_addPerson_62 (fun σ_7 H locs hs G => ?_)
        refine lv_aload_n hx hb dX4_addPerson_63 rfl (lv_at hl 0 rfl) ?_
        refine gf_X4_27 C G hk0 (n' := (n0 + 6)) rfl dX4_addPerson_64 ?_
        refine lv_iload_n hx hb dX4_addPerson_67 rfl (lv_at hl 2 rfl) ?_
        refine lv_dup2_11 hx hb dX4_addPerson_68 rfl rfl ?_
        obtain ⟨g_8, hs⟩ := gdE hs
        refine m_iald C G (kH6 hk0) (lH6 hk0) g_8 dX4_addPerson_69 ?_
        refine lv_iconst (v := 1) hx hb dX4_addPerson_70 (by decide) ?_
        refine lv_aload_n hx hb dX4_addPerson_71 rfl (lv_at hl 0 rfl) ?_
        refine gf_X4_44 C G hk0 dX4_addPerson_72 ?_
        refine lv_ishl hx hb dX4_addPerson_75 ?_
        refine lv_ior hx hb dX4_addPerson_76 ?_
        obtain ⟨g_9, hs⟩ := gdE hs
        refine m_iast C G (kH6 hk0) (lH6 hk0) g_9 hs dX4_addPerson_77 (fun σ_9 H locs hs G => ?_)
        refine lv_aload_n hx hb dX4_addPerson_78 rfl (lv_at hl 0 rfl) ?_
        refine lv_dup hx hb dX4_addPerson_79 rfl ?_
        refine gf_X4_44 C G hk0 dX4_addPerson_80 ?_
        refine lv_iconst (v := 1) hx hb dX4_addPerson_83 (by decide) ?_
        refine lv_iadd hx hb dX4_addPerson_84 ?_
        refine pf_X4_44 C G hk0 hs dX4_addPerson_85 (fun σ_10 H locs hs G => ?_)
        exact retV C G hs dX4_addPerson_88
      · replace hs := ifF c_3 hs
        exact retV C G hs dX4_addPerson_21
-- X4_settleFrom
def rmX4_settleFrom : Room := { frames := 0, cells := 0, slots := 0, locals := 0 }
def fX4_settleFrom_30 (n0 : Nat) (kh : Sg → Int32 → Option Sg) (kx : Sg → Option Sg) (σ : Sg) (x1 : Int32) : Option Sg :=
  lt (x1 + 1) (fun x1_4 => kh σ x1_4)
set_option maxRecDepth 100000 in
set_option maxHeartbeats 4000000 in
theorem wX4_settleFrom_30 {p : Program} {l : Launch} {e : Env} {s : State} {m : MethodId} {args : Array Value} {below : List Frame} {meth : Method} {c : Code} {D : va_G} {cI cZ cO : ClassId} {b : Nat} (C : Cx p s m args meth c cX4_settleFrom RX4 2 none D cI cZ cO) {n0 : Nat} (hk0 : kd n0 = 4) {Rr : Sg} {kh : Sg → Int32 → Option Sg} {kx : Sg → Option Sg} (hh : ∀ (σ : Sg) (x1 : Int32) (H : Heap) (locs : List Loc) (ls : Array Slot), kh σ x1 = some Rr → Gd b D cI cZ cO σ s.heap H locs → lv_has ls 2 [(0, .ref (b + n0)), (1, .int x1)] → W p l e rmX4_settleFrom s m args below meth c H locs 0 0 (MQ below (QV b D cI cZ cO Rr) args s 0 0 (fun q => b ≤ q)) (F0 m 2 ls [])) (hxx : ∀ (σ : Sg) (H : Heap) (locs : List Loc) (ls : Array Slot), kx σ = some Rr → Gd b D cI cZ cO σ s.heap H locs → lv_has ls 2 [] → W p l e rmX4_settleFrom s m args below meth c H locs 0 0 (MQ below (QV b D cI cZ cO Rr) args s 0 0 (fun q => b ≤ q)) (F0 m 36 ls [])) {σ : Sg} {x1 : Int32} {H : Heap} {locs : List Loc} {ls : Array Slot} (hs : fX4_settleFrom_30 n0 kh kx σ x1 = some Rr) (G : Gd b D cI cZ cO σ s.heap H locs) (hl : lv_has ls 2 [(0, .ref (b + n0)), (1, .int x1)]) : W p l e rmX4_settleFrom s m args below meth c H locs 0 0 (MQ below (QV b D cI cZ cO Rr) args s 0 0 (fun q => b ≤ q)) (F0 m 30 ls []) := by
  have hx := C.1
  have hb := C.2.1
  unfold fX4_settleFrom_30 at hs
  obtain ⟨x1_4, e_4, hs⟩ := ltE hs
  refine lv_iinc (v := x1_4) (lv' := [(1, .int x1_4), (0, .ref (b + n0))]) hx hb dX4_settleFrom_30 hl (k := 1) rfl (by rw [e_4]; rfl) (by decide) rfl (fun ls hl => ?_)
  refine lv_goto (tgt := 2) hx hb dX4_settleFrom_33 (by decide) ?_
  exact hh _ _ _ _ _ hs G (lv_sub hl [1, 0] rfl)
def fX4_settleFrom_2b (n0 : Nat) (kh : Sg → Int32 → Option Sg) (kx : Sg → Option Sg) (σ : Sg) (x1 : Int32) : Option Sg :=
  (if (σ n0 4) ≤ x1 then kx σ else (if inb x1 7 then (if (σ (n0 + 4) x1.toNatClampNeg) < (σ n0 4) then fX4_settleFrom_30 n0 kh kx σ x1 else (if inb x1 7 then lt (st σ (n0 + 4) x1.toNatClampNeg (-1)) (fun σ_5 => fX4_settleFrom_30 n0 kh kx σ_5 x1) else none)) else none))
set_option maxRecDepth 100000 in
set_option maxHeartbeats 4000000 in
theorem wX4_settleFrom_2b {p : Program} {l : Launch} {e : Env} {s : State} {m : MethodId} {args : Array Value} {below : List Frame} {meth : Method} {c : Code} {D : va_G} {cI cZ cO : ClassId} {b : Nat} (C : Cx p s m args meth c cX4_settleFrom RX4 2 none D cI cZ cO) {n0 : Nat} (hk0 : kd n0 = 4) {Rr : Sg} {kh : Sg → Int32 → Option Sg} {kx : Sg → Option Sg} (hh : ∀ (σ : Sg) (x1 : Int32) (H : Heap) (locs : List Loc) (ls : Array Slot), kh σ x1 = some Rr → Gd b D cI cZ cO σ s.heap H locs → lv_has ls 2 [(0, .ref (b + n0)), (1, .int x1)] → W p l e rmX4_settleFrom s m args below meth c H locs 0 0 (MQ below (QV b D cI cZ cO Rr) args s 0 0 (fun q => b ≤ q)) (F0 m 2 ls [])) (hxx : ∀ (σ : Sg) (H : Heap) (locs : List Loc) (ls : Array Slot), kx σ = some Rr → Gd b D cI cZ cO σ s.heap H locs → lv_has ls 2 [] → W p l e rmX4_settleFrom s m args below meth c H locs 0 0 (MQ below (QV b D cI cZ cO Rr) args s 0 0 (fun q => b ≤ q)) (F0 m 36 ls [])) {σ : Sg} {x1 : Int32} {H : Heap} {locs : List Loc} {ls : Array Slot} (hs : fX4_settleFrom_2b n0 kh kx σ x1 = some Rr) (G : Gd b D cI cZ cO σ s.heap H locs) (hl : lv_has ls 2 [(0, .ref (b + n0)), (1, .int x1)]) : W p l e rmX4_settleFrom s m args below meth c H locs 0 0 (MQ below (QV b D cI cZ cO Rr) args s 0 0 (fun q => b ≤ q)) (F0 m 2 ls []) := by
  have hx := C.1
  have hb := C.2.1
  unfold fX4_settleFrom_2b at hs
  refine lv_iload_n hx hb dX4_settleFrom_2 rfl (lv_at hl 1 rfl) ?_
  refine lv_aload_n hx hb dX4_settleFrom_3 rfl (lv_at hl 0 rfl) ?_
  refine gf_X4_44 C G hk0 dX4_settleFrom_4 ?_
  refine lv_icmp_ge (tgt := 36) hx hb dX4_settleFrom_7 (by decide) (fun c_1 => ?_) (fun c_1 => ?_)
  · replace hs := ifT c_1 hs
    exact hxx _ _ _ _ hs G (lv_sub hl [] rfl)
  · replace hs := ifF c_1 hs
    refine lv_aload_n hx hb dX4_settleFrom_10 rfl (lv_at hl 0 rfl) ?_
    refine gf_X4_21 C G hk0 (n' := (n0 + 4)) rfl dX4_settleFrom_11 ?_
    refine lv_iload_n hx hb dX4_settleFrom_14 rfl (lv_at hl 1 rfl) ?_
    obtain ⟨g_2, hs⟩ := gdE hs
    refine m_iald C G (kH4 hk0) (lH4 hk0) g_2 dX4_settleFrom_15 ?_
    refine lv_aload_n hx hb dX4_settleFrom_16 rfl (lv_at hl 0 rfl) ?_
    refine gf_X4_44 C G hk0 dX4_settleFrom_17 ?_
    refine lv_icmp_lt (tgt := 30) hx hb dX4_settleFrom_20 (by decide) (fun c_3 => ?_) (fun c_3 => ?_)
    · replace hs := ifT c_3 hs
      exact wX4_settleFrom_30 C hk0 hh hxx hs G (lv_sub hl [0, 1] rfl)
    · replace hs := ifF c_3 hs
      refine lv_aload_n hx hb dX4_settleFrom_23 rfl (lv_at hl 0 rfl) ?_
      refine gf_X4_21 C G hk0 (n' := (n0 + 4)) rfl dX4_settleFrom_24 ?_
      refine lv_iload_n hx hb dX4_settleFrom_27 rfl (lv_at hl 1 rfl) ?_
      refine lv_iconst (v := (-1)) hx hb dX4_settleFrom_28 (by decide) ?_
      obtain ⟨g_5, hs⟩ := gdE hs
      refine m_iast C G (kH4 hk0) (lH4 hk0) g_5 hs dX4_settleFrom_29 (fun σ_5 H locs hs G => ?_)
      exact wX4_settleFrom_30 C hk0 hh hxx hs G (lv_sub hl [0, 1] rfl)
def fX4_settleFrom_2 (n0 : Nat) : Nat → (Sg → Option Sg) → Sg → Int32 → Option Sg
  | 0, _, _, _ => none
  | fu + 1, kx, σ, x1 => fX4_settleFrom_2b n0 (fX4_settleFrom_2 n0 fu kx) kx σ x1
theorem fX4_settleFrom_2_s (n0 : Nat) (fu : Nat) (kx : Sg → Option Sg) (σ : Sg) (x1 : Int32) : fX4_settleFrom_2 n0 (fu + 1) kx σ x1 = fX4_settleFrom_2b n0 (fX4_settleFrom_2 n0 fu kx) kx σ x1 := by rw [fX4_settleFrom_2]
theorem wX4_settleFrom_2 {p : Program} {l : Launch} {e : Env} {s : State} {m : MethodId} {args : Array Value} {below : List Frame} {meth : Method} {c : Code} {D : va_G} {cI cZ cO : ClassId} {b : Nat} (C : Cx p s m args meth c cX4_settleFrom RX4 2 none D cI cZ cO) {n0 : Nat} (hk0 : kd n0 = 4) {Rr : Sg} {kx : Sg → Option Sg} (hxx : ∀ (σ : Sg) (H : Heap) (locs : List Loc) (ls : Array Slot), kx σ = some Rr → Gd b D cI cZ cO σ s.heap H locs → lv_has ls 2 [] → W p l e rmX4_settleFrom s m args below meth c H locs 0 0 (MQ below (QV b D cI cZ cO Rr) args s 0 0 (fun q => b ≤ q)) (F0 m 36 ls [])) : ∀ (fu : Nat) (σ : Sg) (x1 : Int32) (H : Heap) (locs : List Loc) (ls : Array Slot), fX4_settleFrom_2 n0 fu kx σ x1 = some Rr → Gd b D cI cZ cO σ s.heap H locs → lv_has ls 2 [(0, .ref (b + n0)), (1, .int x1)] → W p l e rmX4_settleFrom s m args below meth c H locs 0 0 (MQ below (QV b D cI cZ cO Rr) args s 0 0 (fun q => b ≤ q)) (F0 m 2 ls []) := by
  intro fu
  induction fu with
  | zero => intro σ x1 H locs ls hs; cases hs
  | succ fu ih =>
    intro σ x1 H locs ls hs G hl
    exact wX4_settleFrom_2b C hk0 (fun σ x1 H locs ls hs G hl => ih σ x1 H locs ls hs G hl) hxx hs G hl
def fX4_settleFrom (n0 : Nat) (σ : Sg) : Option Sg :=
  fX4_settleFrom_2 n0 FU (fun σ_6 => some σ_6) σ 0
set_option maxRecDepth 100000 in
set_option maxHeartbeats 4000000 in
theorem ctX4_settleFrom (l : Launch) {n0 : Nat} (hk0 : kd n0 = 4) {D : va_G} {cI cZ cO : ClassId} {b : Nat} {σ : Sg} {Rr : Sg} (hs : fX4_settleFrom n0 σ = some Rr) : MV l yX4_settleFrom cX4_settleFrom 2 rmX4_settleFrom [.ref (b + n0)] b D cI cZ cO σ Rr := by
  unfold fX4_settleFrom at hs
  refine metV (by decide +kernel) (Nat.le_of_ble_eq_true rfl) (fun p e s m below meth c ls C G hl => ?_)
  have C : Cx p s m _ meth c cX4_settleFrom RX4 2 none D cI cZ cO := C
  have hx := C.1
  have hb := C.2.1
  have hl : lv_has ls 2 [(0, .ref (b + n0))] := hl
  refine lv_iconst (v := 0) hx hb dX4_settleFrom_0 (by decide) ?_
  refine lv_istore_n (lv' := [(1, .int 0), (0, .ref (b + n0))]) hx hb dX4_settleFrom_1 rfl hl (by decide) rfl (fun ls hl => ?_)
  refine wX4_settleFrom_2 C hk0 (fun σ_6 H locs ls hs G hl => ?_) FU _ _ _ _ _ hs G (lv_sub hl [1, 0] rfl)
  exact retV C G hs dX4_settleFrom_36
