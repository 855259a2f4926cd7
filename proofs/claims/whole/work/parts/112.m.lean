-- X12_here
def rmX12_here : Room := { frames := 0, cells := 0, slots := 0, locals := 0 }
def fX12_here_0b (kh : Sg → Option (Int32 × Sg)) (kx : Sg → Option (Int32 × Sg)) (σ : Sg) : Option (Int32 × Sg) :=
  (if (σ 131 10) ≤ (σ 131 12) then kx σ else (if inb (σ 131 12) 240 then (if (σ 136 (σ 131 12).toNatClampNeg) = 32 then lt (st σ 131 12 ((σ 131 12) + 1)) (fun σ_4 => kh σ_4) else kx σ) else none))
set_option maxRecDepth 100000 in
set_option maxHeartbeats 4000000 in
theorem wX12_here_0b {p : Program} {l : Launch} {e : Env} {s : State} {m : MethodId} {args : Array Value} {below : List Frame} {meth : Method} {c : Code} {D : va_G} {cI cZ cO : ClassId} {b : Nat} (C : Cx p s m args meth c cX12_here RX12 1 (some .int) D cI cZ cO) {Rr : (Int32 × Sg)} {kh : Sg → Option (Int32 × Sg)} {kx : Sg → Option (Int32 × Sg)} (hh : ∀ (σ : Sg) (H : Heap) (locs : List Loc) (ls : Array Slot), kh σ = some Rr → Gd b D cI cZ cO σ s.heap H locs → lv_has ls 1 [(0, .ref (b + 131))] → W p l e rmX12_here s m args below meth c H locs 0 0 (MQ below (QI b D cI cZ cO Rr) args s 0 0 (fun q => b ≤ q)) (F0 m 0 ls [])) (hxx : ∀ (σ : Sg) (H : Heap) (locs : List Loc) (ls : Array Slot), kx σ = some Rr → Gd b D cI cZ cO σ s.heap H locs → lv_has ls 1 [(0, .ref (b + 131))] → W p l e rmX12_here s m args below meth c H locs 0 0 (MQ below (QI b D cI cZ cO Rr) args s 0 0 (fun q => b ≤ q)) (F0 m 38 ls [])) {σ : Sg} {H : Heap} {locs : List Loc} {ls : Array Slot} (hs : fX12_here_0b kh kx σ = some Rr) (G : Gd b D cI cZ cO σ s.heap H locs) (hl : lv_has ls 1 [(0, .ref (b + 131))]) : W p l e rmX12_here s m args below meth c H locs 0 0 (MQ below (QI b D cI cZ cO Rr) args s 0 0 (fun q => b ≤ q)) (F0 m 0 ls []) := by
  have hx := C.1
  have hb := C.2.1
  unfold fX12_here_0b at hs
  refine lv_aload_n hx hb dX12_here_0 rfl (lv_at hl 0 rfl) ?_
  refine gf_X12_89 C G kd_131 dX12_here_1 ?_
  refine lv_aload_n hx hb dX12_here_4 rfl (lv_at hl 0 rfl) ?_
  refine gf_X12_85 C G kd_131 dX12_here_5 ?_
  refine lv_icmp_ge (tgt := 38) hx hb dX12_here_8 (by decide) (fun c_1 => ?_) (fun c_1 => ?_)
  · replace hs := ifT c_1 hs
    exact hxx _ _ _ _ hs G (lv_sub hl [0] rfl)
  · replace hs := ifF c_1 hs
    refine lv_aload_n hx hb dX12_here_11 rfl (lv_at hl 0 rfl) ?_
    refine gf_X12_22 C G kd_131 (n' := 136) rfl dX12_here_12 ?_
    refine lv_aload_n hx hb dX12_here_15 rfl (lv_at hl 0 rfl) ?_
    refine gf_X12_89 C G kd_131 dX12_here_16 ?_
    obtain ⟨g_2, hs⟩ := gdE hs
    refine m_iald C G kd_136 ln_136 g_2 dX12_here_19 ?_
    refine lv_bipush (v := 32) hx hb dX12_here_20 (by decide) ?_
    refine lv_icmp_ne (tgt := 38) hx hb dX12_here_22 (by decide) (fun c_3 => ?_) (fun c_3 => ?_)
    · replace hs := ifF c_3 hs
      exact hxx _ _ _ _ hs G (lv_sub hl [0] rfl)
    · replace hs := ifT c_3 hs
      refine lv_aload_n hx hb dX12_here_25 rfl (lv_at hl 0 rfl) ?_
      refine lv_dup hx hb dX12_here_26 rfl ?_
      refine gf_X12_89 C G kd_131 dX12_here_27 ?_
      refine lv_iconst (v := 1) hx hb dX12_here_30 (by decide) ?_
      refine lv_iadd hx hb dX12_here_31 ?_
      refine pf_X12_89 C G kd_131 hs dX12_here_32 (fun σ_4 H locs hs G => ?_)
      refine lv_goto (tgt := 0) hx hb dX12_here_35 (by decide) ?_
      exact hh _ _ _ _ hs G (lv_sub hl [0] rfl)
def fX12_here_0 : Nat → (Sg → Option (Int32 × Sg)) → Sg → Option (Int32 × Sg)
  | 0, _, _ => none
  | fu + 1, kx, σ => fX12_here_0b (fX12_here_0 fu kx) kx σ 
theorem wX12_here_0 {p : Program} {l : Launch} {e : Env} {s : State} {m : MethodId} {args : Array Value} {below : List Frame} {meth : Method} {c : Code} {D : va_G} {cI cZ cO : ClassId} {b : Nat} (C : Cx p s m args meth c cX12_here RX12 1 (some .int) D cI cZ cO) {Rr : (Int32 × Sg)} {kx : Sg → Option (Int32 × Sg)} (hxx : ∀ (σ : Sg) (H : Heap) (locs : List Loc) (ls : Array Slot), kx σ = some Rr → Gd b D cI cZ cO σ s.heap H locs → lv_has ls 1 [(0, .ref (b + 131))] → W p l e rmX12_here s m args below meth c H locs 0 0 (MQ below (QI b D cI cZ cO Rr) args s 0 0 (fun q => b ≤ q)) (F0 m 38 ls [])) : ∀ (fu : Nat) (σ : Sg) (H : Heap) (locs : List Loc) (ls : Array Slot), fX12_here_0 fu kx σ = some Rr → Gd b D cI cZ cO σ s.heap H locs → lv_has ls 1 [(0, .ref (b + 131))] → W p l e rmX12_here s m args below meth c H locs 0 0 (MQ below (QI b D cI cZ cO Rr) args s 0 0 (fun q => b ≤ q)) (F0 m 0 ls []) := by
  intro fu
  induction fu with
  | zero => intro σ H locs ls hs; cases hs
  | succ fu ih =>
    intro σ H locs ls hs G hl
    exact wX12_here_0b C (fun σ H locs ls hs G hl => ih σ H locs ls hs G hl) hxx hs G hl
def fX12_here_38 (σ : Sg) : Option (Int32 × Sg) :=
  (if (σ 131 10) ≤ (σ 131 12) then some ((-1), σ) else (if inb (σ 131 12) 240 then some ((σ 136 (σ 131 12).toNatClampNeg), σ) else none))
set_option maxRecDepth 100000 in
set_option maxHeartbeats 4000000 in
theorem wX12_here_38 {p : Program} {l : Launch} {e : Env} {s : State} {m : MethodId} {args : Array Value} {below : List Frame} {meth : Method} {c : Code} {D : va_G} {cI cZ cO : ClassId} {b : Nat} (C : Cx p s m args meth c cX12_here RX12 1 (some .int) D cI cZ cO) {Rr : (Int32 × Sg)} {σ : Sg} {H : Heap} {locs : List Loc} {ls : Array Slot} (hs : fX12_here_38 σ = some Rr) (G : Gd b D cI cZ cO σ s.heap H locs) (hl : lv_has ls 1 [(0, .ref (b + 131))]) : W p l e rmX12_here s m args below meth c H locs 0 0 (MQ below (QI b D cI cZ cO Rr) args s 0 0 (fun q => b ≤ q)) (F0 m 38 ls []) := by
  have hx := C.1
  have hb := C.2.1
  unfold fX12_here_38 at hs
  refine lv_aload_n hx hb dX12_here_38 rfl (lv_at hl 0 rfl) ?_
  refine gf_X12_89 C G kd_131 dX12_here_39 ?_
  refine lv_aload_n hx hb dX12_here_42 rfl (lv_at hl 0 rfl) ?_
  refine gf_X12_85 C G kd_131 dX12_here_43 ?_
  refine lv_icmp_ge (tgt := 61) hx hb dX12_here_46 (by decide) (fun c_6 => ?_) (fun c_6 => ?_)
  · replace hs := ifT c_6 hs
    refine lv_iconst (v := (-1)) hx hb dX12_here_61 (by decide) ?_
    exact retI C G hs dX12_here_62
  · replace hs := ifF c_6 hs
    refine lv_aload_n hx hb dX12_here_49 rfl (lv_at hl 0 rfl) ?_
    refine gf_X12_22 C G kd_131 (n' := 136) rfl dX12_here_50 ?_
    refine lv_aload_n hx hb dX12_here_53 rfl (lv_at hl 0 rfl) ?_
    refine gf_X12_89 C G kd_131 dX12_here_54 ?_
    obtain ⟨g_7, hs⟩ := gdE hs
    refine m_iald C G kd_136 ln_136 g_7 dX12_here_57 ?_
    refine lv_goto (tgt := 62) hx hb dX12_here_58 (by decide) ?_
    exact retI C G hs dX12_here_62
def fX12_here (σ : Sg) : Option (Int32 × Sg) :=
  fX12_here_0 FU (fun σ_5 => fX12_here_38 σ_5) σ
set_option maxRecDepth 100000 in
set_option maxHeartbeats 4000000 in
theorem ctX12_here (l : Launch) {D : va_G} {cI cZ cO : ClassId} {b : Nat} {σ : Sg} {Rr : (Int32 × Sg)} (hs : fX12_here σ = some Rr) : MI l yX12_here cX12_here 1 (some .int) rmX12_here [.ref (b + 131)] b D cI cZ cO σ Rr := by
  unfold fX12_here at hs
  refine metI (by decide +kernel) (Nat.le_of_ble_eq_true rfl) (fun p e s m below meth c ls C G hl => ?_)
  have C : Cx p s m _ meth c cX12_here RX12 1 (some .int) D cI cZ cO := C
  have hx := C.1
  have hb := C.2.1
  have hl : lv_has ls 1 [(0, .ref (b + 131))] := hl
  refine wX12_here_0 C (fun σ_5 H locs ls hs G hl => ?_) FU _ _ _ _ hs G (lv_sub hl [0] rfl)
  exact wX12_here_38 C   hs G (lv_sub hl [0] rfl)
-- X12_fails
def rmX12_fails : Room := { frames := 0, cells := 0, slots := 0, locals := 0 }
def fX12_fails (σ : Sg) (x1 : Int32) (x2 : Int32) : Option (Int32 × Sg) :=
  lt (st σ 131 11 x2) (fun σ_1 => some (x1, σ_1))
set_option maxRecDepth 100000 in
set_option maxHeartbeats 4000000 in
theorem ctX12_fails (l : Launch) {D : va_G} {cI cZ cO : ClassId} {b : Nat} {σ : Sg} {x1 : Int32} {x2 : Int32} {Rr : (Int32 × Sg)} (hs : fX12_fails σ x1 x2 = some Rr) : MI l yX12_fails cX12_fails 3 (some .int) rmX12_fails [.ref (b + 131), .int x1, .int x2] b D cI cZ cO σ Rr := by
  unfold fX12_fails at hs
  refine metI (by decide +kernel) (Nat.le_of_ble_eq_true rfl) (fun p e s m below meth c ls C G hl => ?_)
  have C : Cx p s m _ meth c cX12_fails RX12 3 (some .int) D cI cZ cO := C
  have hx := C.1
  have hb := C.2.1
  have hl : lv_has ls 3 [(0, .ref (b + 131)), (1, .int x1), (2, .int x2)] := hl
  refine lv_aload_n hx hb dX12_fails_0 rfl (lv_at hl 0 rfl) ?_
  refine lv_iload_n hx hb dX12_fails_1 rfl (lv_at hl 2 rfl) ?_
  refine pf_X12_25 C G kd_131 hs dX12_fails_2 (fun σ_1 H locs hs G => ?_)
  refine lv_iload_n hx hb dX12_fails_5 rfl (lv_at hl 1 rfl) ?_
  exact retI C G hs dX12_fails_6
-- X12_takeNumber
def rmX12_takeNumber : Room := { frames := 1, cells := 0, slots := 0, locals := 25 }
def fX12_takeNumber_108 (kh : Sg → Int32 → Int32 → Int32 → Option (Int32 × Sg)) (kx : Sg → Int32 → Int32 → Int32 → Option (Int32 × Sg)) (σ : Sg) (x1 : Int32) (x2 : Int32) (x3 : Int32) (y0 : Int32) : Option (Int32 × Sg) :=
  lt (st σ 131 13 y0) (fun σ_12 => lt (st σ_12 131 12 ((σ_12 131 12) + 1)) (fun σ_13 => kh σ_13 x1 x2 x3))
set_option maxRecDepth 100000 in
set_option maxHeartbeats 4000000 in
theorem wX12_takeNumber_108 {p : Program} {l : Launch} {e : Env} {s : State} {m : MethodId} {args : Array Value} {below : List Frame} {meth : Method} {c : Code} {D : va_G} {cI cZ cO : ClassId} {b : Nat} (C : Cx p s m args meth c cX12_takeNumber RX12 4 (some .int) D cI cZ cO) {Rr : (Int32 × Sg)} {kh : Sg → Int32 → Int32 → Int32 → Option (Int32 × Sg)} {kx : Sg → Int32 → Int32 → Int32 → Option (Int32 × Sg)} (hh : ∀ (σ : Sg) (x1 : Int32) (x2 : Int32) (x3 : Int32) (H : Heap) (locs : List Loc) (ls : Array Slot), kh σ x1 x2 x3 = some Rr → Gd b D cI cZ cO σ s.heap H locs → lv_has ls 4 [(0, .ref (b + 131)), (1, .int x1), (2, .int x2), (3, .int x3)] → W p l e rmX12_takeNumber s m args below meth c H locs 0 0 (MQ below (QI b D cI cZ cO Rr) args s 0 0 (fun q => b ≤ q)) (F0 m 37 ls [])) (hxx : ∀ (σ : Sg) (x1 : Int32) (x2 : Int32) (x3 : Int32) (H : Heap) (locs : List Loc) (ls : Array Slot), kx σ x1 x2 x3 = some Rr → Gd b D cI cZ cO σ s.heap H locs → lv_has ls 4 [(0, .ref (b + 131)), (1, .int x1), (2, .int x2), (3, .int x3)] → W p l e rmX12_takeNumber s m args below meth c H locs 0 0 (MQ below (QI b D cI cZ cO Rr) args s 0 0 (fun q => b ≤ q)) (F0 m 124 ls [])) {σ : Sg} {x1 : Int32} {x2 : Int32} {x3 : Int32} {y0 : Int32} {H : Heap} {locs : List Loc} {ls : Array Slot} (hs : fX12_takeNumber_108 kh kx σ x1 x2 x3 y0 = some Rr) (G : Gd b D cI cZ cO σ s.heap H locs) (hl : lv_has ls 4 [(0, .ref (b + 131)), (1, .int x1), (2, .int x2), (3, .int x3)]) : W p l e rmX12_takeNumber s m args below meth c H locs 0 0 (MQ below (QI b D cI cZ cO Rr) args s 0 0 (fun q => b ≤ q)) (F0 m 108 ls [.int y0, .ref (b + 131)]) := by
  have hx := C.1
  have hb := C.2.1
  unfold fX12_takeNumber_108 at hs
  refine pf_X12_104 C G kd_131 hs dX12_takeNumber_108 (fun σ_12 H locs hs G => ?_)
  refine lv_aload_n hx hb dX12_takeNumber_111 rfl (lv_at hl 0 rfl) ?_
  refine lv_dup hx hb dX12_takeNumber_112 rfl ?_
  refine gf_X12_89 C G kd_131 dX12_takeNumber_113 ?_
  refine lv_iconst (v := 1) hx hb dX12_takeNumber_116 (by decide) ?_
  refine lv_iadd hx hb dX12_takeNumber_117 ?_
  refine pf_X12_89 C G kd_131 hs dX12_takeNumber_118 (fun σ_13 H locs hs G => ?_)
  refine lv_goto (tgt := 37) hx hb dX12_takeNumber_121 (by decide) ?_
  exact hh _ _ _ _ _ _ _ hs G (lv_sub hl [0, 1, 2, 3] rfl)
def fX12_takeNumber_37b (kh : Sg → Int32 → Int32 → Int32 → Option (Int32 × Sg)) (kx : Sg → Int32 → Int32 → Int32 → Option (Int32 × Sg)) (σ : Sg) (x1 : Int32) (x2 : Int32) (x3 : Int32) : Option (Int32 × Sg) :=
  (if (σ 131 10) ≤ (σ 131 12) then kx σ x1 x2 x3 else (if inb (σ 131 12) 240 then bi (fX12_in σ ((σ 136 (σ 131 12).toNatClampNeg).toInt64) 48 57) (fun r_8 σ_8 => (if r_8 = 0 then kx σ_8 x1 x2 x3 else (if (σ_8 131 13) ≤ 1000 then (if inb (σ_8 131 12) 240 then fX12_takeNumber_108 kh kx σ_8 x1 x2 x3 (((10 * (σ_8 131 13)) + (σ_8 136 (σ_8 131 12).toNatClampNeg)) - 48) else none) else fX12_takeNumber_108 kh kx σ_8 x1 x2 x3 (σ_8 131 13)))) else none))
set_option maxRecDepth 100000 in
set_option maxHeartbeats 4000000 in
theorem wX12_takeNumber_37b {p : Program} {l : Launch} {e : Env} {s : State} {m : MethodId} {args : Array Value} {below : List Frame} {meth : Method} {c : Code} {D : va_G} {cI cZ cO : ClassId} {b : Nat} (C : Cx p s m args meth c cX12_takeNumber RX12 4 (some .int) D cI cZ cO) {Rr : (Int32 × Sg)} {kh : Sg → Int32 → Int32 → Int32 → Option (Int32 × Sg)} {kx : Sg → Int32 → Int32 → Int32 → Option (Int32 × Sg)} (hh : ∀ (σ : Sg) (x1 : Int32) (x2 : Int32) (x3 : Int32) (H : Heap) (locs : List Loc) (ls : Array Slot), kh σ x1 x2 x3 = some Rr → Gd b D cI cZ cO σ s.heap H locs → lv_has ls 4 [(0, .ref (b + 131)), (1, .int x1), (2, .int x2), (3, .int x3)] → W p l e rmX12_takeNumber s m args below meth c H locs 0 0 (MQ below (QI b D cI cZ cO Rr) args s 0 0 (fun q => b ≤ q)) (F0 m 37 ls [])) (hxx : ∀ (σ : Sg) (x1 : Int32) (x2 : Int32) (x3 : Int32) (H : Heap) (locs : List Loc) (ls : Array Slot), kx σ x1 x2 x3 = some Rr → Gd b D cI cZ cO σ s.heap H locs → lv_has ls 4 [(0, .ref (b + 131)), (1, .int x1), (2, .int x2), (3, .int x3)] → W p l e rmX12_takeNumber s m args below meth c H locs 0 0 (MQ below (QI b D cI cZ cO Rr) args s 0 0 (fun q => b ≤ q)) (F0 m 124 ls [])) {σ : Sg} {x1 : Int32} {x2 : Int32} {x3 : Int32} {H : Heap} {locs : List Loc} {ls : Array Slot} (hs : fX12_takeNumber_37b kh kx σ x1 x2 x3 = some Rr) (G : Gd b D cI cZ cO σ s.heap H locs) (hl : lv_has ls 4 [(0, .ref (b + 131)), (1, .int x1), (2, .int x2), (3, .int x3)]) : W p l e rmX12_takeNumber s m args below meth c H locs 0 0 (MQ below (QI b D cI cZ cO Rr) args s 0 0 (fun q => b ≤ q)) (F0 m 37 ls []) := by
  have hx := C.1
  have hb := C.2.1
  unfold fX12_takeNumber_37b at hs
  refine lv_aload_n hx hb dX12_takeNumber_37 rfl (lv_at hl 0 rfl) ?_
  refine gf_X12_89 C G kd_131 dX12_takeNumber_38 ?_
  refine lv_aload_n hx hb dX12_takeNumber_41 rfl (lv_at hl 0 rfl) ?_
  refine gf_X12_85 C G kd_131 dX12_takeNumber_42 ?_
  refine lv_icmp_ge (tgt := 124) hx hb dX12_takeNumber_45 (by decide) (fun c_6 => ?_) (fun c_6 => ?_)
  · replace hs := ifT c_6 hs
    exact hxx _ _ _ _ _ _ _ hs G (lv_sub hl [0, 1, 2, 3] rfl)
  · replace hs := ifF c_6 hs
    refine lv_aload_n hx hb dX12_takeNumber_48 rfl (lv_at hl 0 rfl) ?_
    refine gf_X12_22 C G kd_131 (n' := 136) rfl dX12_takeNumber_49 ?_
    refine lv_aload_n hx hb dX12_takeNumber_52 rfl (lv_at hl 0 rfl) ?_
    refine gf_X12_89 C G kd_131 dX12_takeNumber_53 ?_
    obtain ⟨g_7, hs⟩ := gdE hs
    refine m_iald C G kd_136 ln_136 g_7 dX12_takeNumber_56 ?_
    refine lv_i2l hx hb dX12_takeNumber_57 rfl ?_
    refine m_ldc2 C wd_1017 dX12_takeNumber_58 ?_
    refine m_ldc2 C wd_1018 dX12_takeNumber_61 ?_
    obtain ⟨r_8, σ_8, hc, hs⟩ := biE hs
    refine callSI (ar := 3) (As := [.long ((σ 136 (σ 131 12).toNatClampNeg).toInt64), .long 48, .long 57]) (rest := []) C G hl.1 (ctX12_in _  hc) ⟨wd_988, wd_989, wd_81, wd_990⟩ (by decide +kernel) rfl ⟨rfl, rfl⟩ ⟨Nat.le_of_ble_eq_true rfl, Nat.le_of_ble_eq_true rfl⟩ (Nat.le_of_ble_eq_true rfl) ⟨Nat.le_of_ble_eq_true rfl, Nat.le_of_ble_eq_true rfl⟩ dX12_takeNumber_64 rfl (fun H locs G => ?_)
    refine lv_if_eq (tgt := 124) hx hb dX12_takeNumber_67 (by decide) (fun c_9 => ?_) (fun c_9 => ?_)
    · replace hs := ifT c_9 hs
      exact hxx _ _ _ _ _ _ _ hs G (lv_sub hl [0, 1, 2, 3] rfl)
    · replace hs := ifF c_9 hs
      refine lv_aload_n hx hb dX12_takeNumber_70 rfl (lv_at hl 0 rfl) ?_
      refine lv_aload_n hx hb dX12_takeNumber_71 rfl (lv_at hl 0 rfl) ?_
      refine gf_X12_104 C G kd_131 dX12_takeNumber_72 ?_
      refine lv_sipush (v := 1000) hx hb dX12_takeNumber_75 (by decide) ?_
      refine lv_icmp_le (tgt := 88) hx hb dX12_takeNumber_78 (by decide) (fun c_10 => ?_) (fun c_10 => ?_)
      · replace hs := ifT c_10 hs
        refine lv_bipush (v := 10) hx hb dX12_takeNumber_88 (by decide) ?_
        refine lv_aload_n hx hb dX12_takeNumber_90 rfl (lv_at hl 0 rfl) ?_
        refine gf_X12_104 C G kd_131 dX12_takeNumber_91 ?_
        refine lv_imul hx hb dX12_takeNumber_94 ?_
        refine lv_aload_n hx hb dX12_takeNumber_95 rfl (lv_at hl 0 rfl) ?_
        refine gf_X12_22 C G kd_131 (n' := 136) rfl dX12_takeNumber_96 ?_
        refine lv_aload_n hx hb dX12_takeNumber_99 rfl (lv_at hl 0 rfl) ?_
        refine gf_X12_89 C G kd_131 dX12_takeNumber_100 ?_
        obtain ⟨g_11, hs⟩ := gdE hs
        refine m_iald C G kd_136 ln_136 g_11 dX12_takeNumber_103 ?_
        refine lv_iadd hx hb dX12_takeNumber_104 ?_
        refine lv_bipush (v := 48) hx hb dX12_takeNumber_105 (by decide) ?_
        refine lv_isub hx hb dX12_takeNumber_107 ?_
        exact wX12_takeNumber_108 C  hh hxx hs G (lv_sub hl [0, 1, 2, 3] rfl)
      · replace hs := ifF c_10 hs
        refine lv_aload_n hx hb dX12_takeNumber_81 rfl (lv_at hl 0 rfl) ?_
        refine gf_X12_104 C G kd_131 dX12_takeNumber_82 ?_
        refine lv_goto (tgt := 108) hx hb dX12_takeNumber_85 (by decide) ?_
        exact wX12_takeNumber_108 C  hh hxx hs G (lv_sub hl [0, 1, 2, 3] rfl)
def fX12_takeNumber_37 : Nat → (Sg → Int32 → Int32 → Int32 → Option (Int32 × Sg)) → Sg → Int32 → Int32 → Int32 → Option (Int32 × Sg)
  | 0, _, _, _, _, _ => none
  | fu + 1, kx, σ, x1, x2, x3 => fX12_takeNumber_37b (fX12_takeNumber_37 fu kx) kx σ x1 x2 x3
theorem wX12_takeNumber_37 {p : Program} {l : Launch} {e : Env} {s : State} {m : MethodId} {args : Array Value} {below : List Frame} {meth : Method} {c : Code} {D : va_G} {cI cZ cO : ClassId} {b : Nat} (C : Cx p s m args meth c cX12_takeNumber RX12 4 (some .int) D cI cZ cO) {Rr : (Int32 × Sg)} {kx : Sg → Int32 → Int32 → Int32 → Option (Int32 × Sg)} (hxx : ∀ (σ : Sg) (x1 : Int32) (x2 : Int32) (x3 : Int32) (H : Heap) (locs : List Loc) (ls : Array Slot), kx σ x1 x2 x3 = some Rr → Gd b D cI cZ cO σ s.heap H locs → lv_has ls 4 [(0, .ref (b + 131)), (1, .int x1), (2, .int x2), (3, .int x3)] → W p l e rmX12_takeNumber s m args below meth c H locs 0 0 (MQ below (QI b D cI cZ cO Rr) args s 0 0 (fun q => b ≤ q)) (F0 m 124 ls [])) : ∀ (fu : Nat) (σ : Sg) (x1 : Int32) (x2 : Int32) (x3 : Int32) (H : Heap) (locs : List Loc) (ls : Array Slot), fX12_takeNumber_37 fu kx σ x1 x2 x3 = some Rr → Gd b D cI cZ cO σ s.heap H locs → lv_has ls 4 [(0, .ref (b + 131)), (1, .int x1), (2, .int x2), (3, .int x3)] → W p l e rmX12_takeNumber s m args below meth c H locs 0 0 (MQ below (QI b D cI cZ cO Rr) args s 0 0 (fun q => b ≤ q)) (F0 m 37 ls []) := by
  intro fu
  induction fu with
  | zero => intro σ x1 x2 x3 H locs ls hs; cases hs
  | succ fu ih =>
    intro σ x1 x2 x3 H locs ls hs G hl
    exact wX12_takeNumber_37b C (fun σ x1 x2 x3 H locs ls hs G hl => ih σ x1 x2 x3 H locs ls hs G hl) hxx hs G hl
def fX12_takeNumber_149 (σ : Sg) (x3 : Int32) : Option (Int32 × Sg) :=
  bi (fX12_fails σ 2 x3) (fun r_16 σ_16 => some (r_16, σ_16))
set_option maxRecDepth 100000 in
set_option maxHeartbeats 4000000 in
theorem wX12_takeNumber_149 {p : Program} {l : Launch} {e : Env} {s : State} {m : MethodId} {args : Array Value} {below : List Frame} {meth : Method} {c : Code} {D : va_G} {cI cZ cO : ClassId} {b : Nat} (C : Cx p s m args meth c cX12_takeNumber RX12 4 (some .int) D cI cZ cO) {Rr : (Int32 × Sg)} {σ : Sg} {x3 : Int32} {H : Heap} {locs : List Loc} {ls : Array Slot} (hs : fX12_takeNumber_149 σ x3 = some Rr) (G : Gd b D cI cZ cO σ s.heap H locs) (hl : lv_has ls 4 [(0, .ref (b + 131)), (3, .int x3)]) : W p l e rmX12_takeNumber s m args below meth c H locs 0 0 (MQ below (QI b D cI cZ cO Rr) args s 0 0 (fun q => b ≤ q)) (F0 m 149 ls []) := by
  have hx := C.1
  have hb := C.2.1
  unfold fX12_takeNumber_149 at hs
  refine lv_aload_n hx hb dX12_takeNumber_149 rfl (lv_at hl 0 rfl) ?_
  refine lv_iconst (v := 2) hx hb dX12_takeNumber_150 (by decide) ?_
  refine lv_iload_n hx hb dX12_takeNumber_151 rfl (lv_at hl 1 rfl) ?_
  obtain ⟨r_16, σ_16, hc, hs⟩ := biE hs
  refine callVI (ar := 2) (As := [.int 2, .int x3]) (rest := []) C G hl.1 (ctX12_fails _  hc) ⟨wd_1005, wd_1007, wd_28, wd_81, wd_1008⟩ (by decide +kernel) rfl ⟨rfl, rfl⟩ ⟨Nat.le_of_ble_eq_true rfl, Nat.le_of_ble_eq_true rfl⟩ (kd_lt kd_131 (by decide)) (ent_12 b cI cZ cO _ kd_131) rfl (Nat.le_of_ble_eq_true rfl) ⟨Nat.le_of_ble_eq_true rfl, Nat.le_of_ble_eq_true rfl⟩ dX12_takeNumber_152 rfl (fun H locs G => ?_)
  refine lv_goto (tgt := 159) hx hb dX12_takeNumber_155 (by decide) ?_
  exact retI C G hs dX12_takeNumber_159
def fX12_takeNumber_124 (σ : Sg) (x1 : Int32) (x2 : Int32) (x3 : Int32) : Option (Int32 × Sg) :=
  (if 3 < ((σ 131 12) - x3) then fX12_takeNumber_149 σ x3 else bi (fX12_in σ ((σ 131 13).toInt64) x1.toInt64 x2.toInt64) (fun r_17 σ_17 => (if r_17 = 0 then fX12_takeNumber_149 σ_17 x3 else some (0, σ_17))))
set_option maxRecDepth 100000 in
set_option maxHeartbeats 4000000 in
theorem wX12_takeNumber_124 {p : Program} {l : Launch} {e : Env} {s : State} {m : MethodId} {args : Array Value} {below : List Frame} {meth : Method} {c : Code} {D : va_G} {cI cZ cO : ClassId} {b : Nat} (C : Cx p s m args meth c cX12_takeNumber RX12 4 (some .int) D cI cZ cO) {Rr : (Int32 × Sg)} {σ : Sg} {x1 : Int32} {x2 : Int32} {x3 : Int32} {H : Heap} {locs : List Loc} {ls : Array Slot} (hs : fX12_takeNumber_124 σ x1 x2 x3 = some Rr) (G : Gd b D cI cZ cO σ s.heap H locs) (hl : lv_has ls 4 [(0, .ref (b + 131)), (1, .int x1), (2, .int x2), (3, .int x3)]) : W p l e rmX12_takeNumber s m args below meth c H locs 0 0 (MQ below (QI b D cI cZ cO Rr) args s 0 0 (fun q => b ≤ q)) (F0 m 124 ls []) := by
  have hx := C.1
  have hb := C.2.1
  unfold fX12_takeNumber_124 at hs
  refine lv_aload_n hx hb dX12_takeNumber_124 rfl (lv_at hl 0 rfl) ?_
  refine gf_X12_89 C G kd_131 dX12_takeNumber_125 ?_
  refine lv_iload_n hx hb dX12_takeNumber_128 rfl (lv_at hl 3 rfl) ?_
  refine lv_isub hx hb dX12_takeNumber_129 ?_
  refine lv_iconst (v := 3) hx hb dX12_takeNumber_130 (by decide) ?_
  refine lv_icmp_gt (tgt := 149) hx hb dX12_takeNumber_131 (by decide) (fun c_15 => ?_) (fun c_15 => ?_)
  · replace hs := ifT c_15 hs
    exact wX12_takeNumber_149 C   hs G (lv_sub hl [0, 3] rfl)
  · replace hs := ifF c_15 hs
    refine lv_aload_n hx hb dX12_takeNumber_134 rfl (lv_at hl 0 rfl) ?_
    refine gf_X12_104 C G kd_131 dX12_takeNumber_135 ?_
    refine lv_i2l hx hb dX12_takeNumber_138 rfl ?_
    refine lv_iload_n hx hb dX12_takeNumber_139 rfl (lv_at hl 1 rfl) ?_
    refine lv_i2l hx hb dX12_takeNumber_140 rfl ?_
    refine lv_iload_n hx hb dX12_takeNumber_141 rfl (lv_at hl 2 rfl) ?_
    refine lv_i2l hx hb dX12_takeNumber_142 rfl ?_
    obtain ⟨r_17, σ_17, hc, hs⟩ := biE hs
    refine callSI (ar := 3) (As := [.long ((σ 131 13).toInt64), .long x1.toInt64, .long x2.toInt64]) (rest := []) C G hl.1 (ctX12_in _  hc) ⟨wd_988, wd_989, wd_81, wd_990⟩ (by decide +kernel) rfl ⟨rfl, rfl⟩ ⟨Nat.le_of_ble_eq_true rfl, Nat.le_of_ble_eq_true rfl⟩ (Nat.le_of_ble_eq_true rfl) ⟨Nat.le_of_ble_eq_true rfl, Nat.le_of_ble_eq_true rfl⟩ dX12_takeNumber_143 rfl (fun H locs G => ?_)
    refine lv_if_ne (tgt := 158) hx hb dX12_takeNumber_146 (by decide) (fun c_18 => ?_) (fun c_18 => ?_)
    · replace hs := ifF c_18 hs
      refine lv_iconst (v := 0) hx hb dX12_takeNumber_158 (by decide) ?_
      exact retI C G hs dX12_takeNumber_159
    · replace hs := ifT c_18 hs
      exact wX12_takeNumber_149 C   hs G (lv_sub hl [0, 3] rfl)
def fX12_takeNumber (σ : Sg) (x1 : Int32) (x2 : Int32) : Option (Int32 × Sg) :=
  bi (fX12_here σ) (fun r_1 σ_1 => bi (fX12_in σ_1 r_1.toInt64 48 57) (fun r_2 σ_2 => (if r_2 = 0 then bi (fX12_fails σ_2 1 (σ_2 131 12)) (fun r_19 σ_19 => some (r_19, σ_19)) else lt (σ_2 131 12) (fun x3_4 => lt (st σ_2 131 13 0) (fun σ_5 => fX12_takeNumber_37 FU (fun σ_14 x1_14 x2_14 x3_14 => fX12_takeNumber_124 σ_14 x1_14 x2_14 x3_14) σ_5 x1 x2 x3_4)))))
set_option maxRecDepth 100000 in
set_option maxHeartbeats 4000000 in
theorem ctX12_takeNumber (l : Launch) {D : va_G} {cI cZ cO : ClassId} {b : Nat} {σ : Sg} {x1 : Int32} {x2 : Int32} {Rr : (Int32 × Sg)} (hs : fX12_takeNumber σ x1 x2 = some Rr) : MI l yX12_takeNumber cX12_takeNumber 4 (some .int) rmX12_takeNumber [.ref (b + 131), .int x1, .int x2] b D cI cZ cO σ Rr := by
  unfold fX12_takeNumber at hs
  refine metI (by decide +kernel) (Nat.le_of_ble_eq_true rfl) (fun p e s m below meth c ls C G hl => ?_)
  have C : Cx p s m _ meth c cX12_takeNumber RX12 4 (some .int) D cI cZ cO := C
  have hx := C.1
  have hb := C.2.1
  have hl : lv_has ls 4 [(0, .ref (b + 131)), (1, .int x1), (2, .int x2)] := hl
  refine lv_aload_n hx hb dX12_takeNumber_0 rfl (lv_at hl 0 rfl) ?_
  obtain ⟨r_1, σ_1, hc, hs⟩ := biE hs
  refine callVI (ar := 0) (As := []) (rest := []) C G hl.1 (ctX12_here _  hc) ⟨wd_997, wd_999, wd_26, wd_81, wd_1000⟩ (by decide +kernel) rfl ⟨rfl, rfl⟩ ⟨Nat.le_of_ble_eq_true rfl, Nat.le_of_ble_eq_true rfl⟩ (kd_lt kd_131 (by decide)) (ent_12 b cI cZ cO _ kd_131) rfl (Nat.le_of_ble_eq_true rfl) ⟨Nat.le_of_ble_eq_true rfl, Nat.le_of_ble_eq_true rfl⟩ dX12_takeNumber_1 rfl (fun H locs G => ?_)
  refine lv_i2l hx hb dX12_takeNumber_4 rfl ?_
  refine m_ldc2 C wd_1017 dX12_takeNumber_5 ?_
  refine m_ldc2 C wd_1018 dX12_takeNumber_8 ?_
  obtain ⟨r_2, σ_2, hc, hs⟩ := biE hs
  refine callSI (ar := 3) (As := [.long r_1.toInt64, .long 48, .long 57]) (rest := []) C G hl.1 (ctX12_in _  hc) ⟨wd_988, wd_989, wd_81, wd_990⟩ (by decide +kernel) rfl ⟨rfl, rfl⟩ ⟨Nat.le_of_ble_eq_true rfl, Nat.le_of_ble_eq_true rfl⟩ (Nat.le_of_ble_eq_true rfl) ⟨Nat.le_of_ble_eq_true rfl, Nat.le_of_ble_eq_true rfl⟩ dX12_takeNumber_11 rfl (fun H locs G => ?_)
  refine lv_if_ne (tgt := 27) hx hb dX12_takeNumber_14 (by decide) (fun c_3 => ?_) (fun c_3 => ?_)
  · replace hs := ifF c_3 hs
    refine lv_aload_n hx hb dX12_takeNumber_27 rfl (lv_at hl 0 rfl) ?_
    refine gf_X12_89 C G kd_131 dX12_takeNumber_28 ?_
    refine topI hs (fun x3_4 hs => ?_)
    refine lv_istore_n (lv' := [(3, .int x3_4), (0, .ref (b + 131)), (1, .int x1), (2, .int x2)]) hx hb dX12_takeNumber_31 rfl hl (by decide) rfl (fun ls hl => ?_)
    refine lv_aload_n hx hb dX12_takeNumber_32 rfl (lv_at hl 1 rfl) ?_
    refine lv_iconst (v := 0) hx hb dX12_takeNumber_33 (by decide) ?_
    refine pf_X12_104 C G kd_131 hs dX12_takeNumber_34 (fun σ_5 H locs hs G => ?_)
    refine wX12_takeNumber_37 C (fun σ_14 x1_14 x2_14 x3_14 H locs ls hs G hl => ?_) FU _ _ _ _ _ _ _ hs G (lv_sub hl [1, 2, 3, 0] rfl)
    exact wX12_takeNumber_124 C   hs G (lv_sub hl [0, 1, 2, 3] rfl)
  · replace hs := ifT c_3 hs
    refine lv_aload_n hx hb dX12_takeNumber_17 rfl (lv_at hl 0 rfl) ?_
    refine lv_iconst (v := 1) hx hb dX12_takeNumber_18 (by decide) ?_
    refine lv_aload_n hx hb dX12_takeNumber_19 rfl (lv_at hl 0 rfl) ?_
    refine gf_X12_89 C G kd_131 dX12_takeNumber_20 ?_
    obtain ⟨r_19, σ_19, hc, hs⟩ := biE hs
    refine callVI (ar := 2) (As := [.int 1, .int (σ_2 131 12)]) (rest := []) C G hl.1 (ctX12_fails _  hc) ⟨wd_1005, wd_1007, wd_28, wd_81, wd_1008⟩ (by decide +kernel) rfl ⟨rfl, rfl⟩ ⟨Nat.le_of_ble_eq_true rfl, Nat.le_of_ble_eq_true rfl⟩ (kd_lt kd_131 (by decide)) (ent_12 b cI cZ cO _ kd_131) rfl (Nat.le_of_ble_eq_true rfl) ⟨Nat.le_of_ble_eq_true rfl, Nat.le_of_ble_eq_true rfl⟩ dX12_takeNumber_23 rfl (fun H locs G => ?_)
    exact retI C G hs dX12_takeNumber_26
-- X12_takeOracle
def rmX12_takeOracle : Room := { frames := 2, cells := 0, slots := 0, locals := 48 }
def fX12_takeOracle (σ : Sg) : Option (Int32 × Sg) :=
  bi (fX12_takeNumber σ 1 20) (fun r_1 σ_1 => (if r_1 ≤ 0 then lt (st σ_1 131 14 (σ_1 131 13)) (fun σ_3 => bi (fX12_takeNumber σ_3 1 9) (fun r_4 σ_4 => lt (st σ_4 131 15 (σ_4 131 13)) (fun σ_5 => some (r_4, σ_5)))) else some (r_1, σ_1)))
set_option maxRecDepth 100000 in
set_option maxHeartbeats 4000000 in
theorem ctX12_takeOracle (l : Launch) {D : va_G} {cI cZ cO : ClassId} {b : Nat} {σ : Sg} {Rr : (Int32 × Sg)} (hs : fX12_takeOracle σ = some Rr) : MI l yX12_takeOracle cX12_takeOracle 2 (some .int) rmX12_takeOracle [.ref (b + 131)] b D cI cZ cO σ Rr := by
  unfold fX12_takeOracle at hs
  refine metI (by decide +kernel) (Nat.le_of_ble_eq_true rfl) (fun p e s m below meth c ls C G hl => ?_)
  have C : Cx p s m _ meth c cX12_takeOracle RX12 2 (some .int) D cI cZ cO := C
  have hx := C.1
  have hb := C.2.1
  have hl : lv_has ls 2 [(0, .ref (b + 131))] := hl
  refine lv_aload_n hx hb dX12_takeOracle_0 rfl (lv_at hl 0 rfl) ?_
  refine lv_iconst (v := 1) hx hb dX12_takeOracle_1 (by decide) ?_
  refine lv_bipush (v := 20) hx hb dX12_takeOracle_2 (by decide) ?_
  obtain ⟨r_1, σ_1, hc, hs⟩ := biE hs
  refine callVI (ar := 2) (As := [.int 1, .int 20]) (rest := []) C G hl.1 (ctX12_takeNumber _  hc) ⟨wd_1013, wd_1015, wd_30, wd_81, wd_1016⟩ (by decide +kernel) rfl ⟨rfl, rfl⟩ ⟨Nat.le_of_ble_eq_true rfl, Nat.le_of_ble_eq_true rfl⟩ (kd_lt kd_131 (by decide)) (ent_12 b cI cZ cO _ kd_131) rfl (Nat.le_of_ble_eq_true rfl) ⟨Nat.le_of_ble_eq_true rfl, Nat.le_of_ble_eq_true rfl⟩ dX12_takeOracle_4 rfl (fun H locs G => ?_)
  refine lv_istore_n (lv' := [(1, .int r_1), (0, .ref (b + 131))]) hx hb dX12_takeOracle_7 rfl hl (by decide) rfl (fun ls hl => ?_)
  refine lv_iload_n hx hb dX12_takeOracle_8 rfl (lv_at hl 0 rfl) ?_
  refine lv_if_le (tgt := 14) hx hb dX12_takeOracle_9 (by decide) (fun c_2 => ?_) (fun c_2 => ?_)
  · replace hs := ifT c_2 hs
    refine lv_aload_n hx hb dX12_takeOracle_14 rfl (lv_at hl 1 rfl) ?_
    refine lv_aload_n hx hb dX12_takeOracle_15 rfl (lv_at hl 1 rfl) ?_
    refine gf_X12_104 C G kd_131 dX12_takeOracle_16 ?_
    refine pf_X12_110 C G kd_131 hs dX12_takeOracle_19 (fun σ_3 H locs hs G => ?_)
    refine lv_aload_n hx hb dX12_takeOracle_22 rfl (lv_at hl 1 rfl) ?_
    refine lv_iconst (v := 1) hx hb dX12_takeOracle_23 (by decide) ?_
    refine lv_bipush (v := 9) hx hb dX12_takeOracle_24 (by decide) ?_
    obtain ⟨r_4, σ_4, hc, hs⟩ := biE hs
    refine callVI (ar := 2) (As := [.int 1, .int 9]) (rest := []) C G hl.1 (ctX12_takeNumber _  hc) ⟨wd_1013, wd_1015, wd_30, wd_81, wd_1016⟩ (by decide +kernel) rfl ⟨rfl, rfl⟩ ⟨Nat.le_of_ble_eq_true rfl, Nat.le_of_ble_eq_true rfl⟩ (kd_lt kd_131 (by decide)) (ent_12 b cI cZ cO _ kd_131) rfl (Nat.le_of_ble_eq_true rfl) ⟨Nat.le_of_ble_eq_true rfl, Nat.le_of_ble_eq_true rfl⟩ dX12_takeOracle_26 rfl (fun H locs G => ?_)
    refine lv_istore_n (lv' := [(1, .int r_4), (0, .ref (b + 131))]) hx hb dX12_takeOracle_29 rfl hl (by decide) rfl (fun ls hl => ?_)
    refine lv_aload_n hx hb dX12_takeOracle_30 rfl (lv_at hl 1 rfl) ?_
    refine lv_aload_n hx hb dX12_takeOracle_31 rfl (lv_at hl 1 rfl) ?_
    refine gf_X12_104 C G kd_131 dX12_takeOracle_32 ?_
    refine pf_X12_113 C G kd_131 hs dX12_takeOracle_35 (fun σ_5 H locs hs G => ?_)
    refine lv_iload_n hx hb dX12_takeOracle_38 rfl (lv_at hl 0 rfl) ?_
    exact retI C G hs dX12_takeOracle_39
  · replace hs := ifF c_2 hs
    refine lv_iload_n hx hb dX12_takeOracle_12 rfl (lv_at hl 0 rfl) ?_
    exact retI C G hs dX12_takeOracle_13
-- X12_takeVillage
def rmX12_takeVillage : Room := { frames := 2, cells := 0, slots := 0, locals := 48 }
def fX12_takeVillage_35 (σ : Sg) (x1 : Int32) (y0 : Int32) (y1 : Int32) : Option (Int32 × Sg) :=
  lt (st σ 131 16 (y1 + y0)) (fun σ_4 => some (x1, σ_4))
set_option maxRecDepth 100000 in
set_option maxHeartbeats 4000000 in
theorem wX12_takeVillage_35 {p : Program} {l : Launch} {e : Env} {s : State} {m : MethodId} {args : Array Value} {below : List Frame} {meth : Method} {c : Code} {D : va_G} {cI cZ cO : ClassId} {b : Nat} (C : Cx p s m args meth c cX12_takeVillage RX12 2 (some .int) D cI cZ cO) {Rr : (Int32 × Sg)} {σ : Sg} {x1 : Int32} {y0 : Int32} {y1 : Int32} {H : Heap} {locs : List Loc} {ls : Array Slot} (hs : fX12_takeVillage_35 σ x1 y0 y1 = some Rr) (G : Gd b D cI cZ cO σ s.heap H locs) (hl : lv_has ls 2 [(1, .int x1)]) : W p l e rmX12_takeVillage s m args below meth c H locs 0 0 (MQ below (QI b D cI cZ cO Rr) args s 0 0 (fun q => b ≤ q)) (F0 m 35 ls [.int y0, .int y1, .ref (b + 131)]) := by
  have hx := C.1
  have hb := C.2.1
  unfold fX12_takeVillage_35 at hs
  refine lv_iadd hx hb dX12_takeVillage_35 ?_
  refine pf_X12_116 C G kd_131 hs dX12_takeVillage_36 (fun σ_4 H locs hs G => ?_)
  refine lv_iload_n hx hb dX12_takeVillage_39 rfl (lv_at hl 0 rfl) ?_
  exact retI C G hs dX12_takeVillage_40
def fX12_takeVillage (σ : Sg) : Option (Int32 × Sg) :=
  bi (fX12_takeNumber σ 0 99) (fun r_1 σ_1 => (if inb (σ_1 131 16) 4 then lt (st σ_1 137 (σ_1 131 16).toNatClampNeg (σ_1 131 13)) (fun σ_2 => (if r_1 = 0 then fX12_takeVillage_35 σ_2 r_1 1 (σ_2 131 16) else fX12_takeVillage_35 σ_2 r_1 0 (σ_2 131 16))) else none))
set_option maxRecDepth 100000 in
set_option maxHeartbeats 4000000 in
theorem ctX12_takeVillage (l : Launch) {D : va_G} {cI cZ cO : ClassId} {b : Nat} {σ : Sg} {Rr : (Int32 × Sg)} (hs : fX12_takeVillage σ = some Rr) : MI l yX12_takeVillage cX12_takeVillage 2 (some .int) rmX12_takeVillage [.ref (b + 131)] b D cI cZ cO σ Rr := by
  unfold fX12_takeVillage at hs
  refine metI (by decide +kernel) (Nat.le_of_ble_eq_true rfl) (fun p e s m below meth c ls C G hl => ?_)
  have C : Cx p s m _ meth c cX12_takeVillage RX12 2 (some .int) D cI cZ cO := C
  have hx := C.1
  have hb := C.2.1
  have hl : lv_has ls 2 [(0, .ref (b + 131))] := hl
  refine lv_aload_n hx hb dX12_takeVillage_0 rfl (lv_at hl 0 rfl) ?_
  refine lv_iconst (v := 0) hx hb dX12_takeVillage_1 (by decide) ?_
  refine lv_bipush (v := 99) hx hb dX12_takeVillage_2 (by decide) ?_
  obtain ⟨r_1, σ_1, hc, hs⟩ := biE hs
  refine callVI (ar := 2) (As := [.int 0, .int 99]) (rest := []) C G hl.1 (ctX12_takeNumber _  hc) ⟨wd_1013, wd_1015, wd_30, wd_81, wd_1016⟩ (by decide +kernel) rfl ⟨rfl, rfl⟩ ⟨Nat.le_of_ble_eq_true rfl, Nat.le_of_ble_eq_true rfl⟩ (kd_lt kd_131 (by decide)) (ent_12 b cI cZ cO _ kd_131) rfl (Nat.le_of_ble_eq_true rfl) ⟨Nat.le_of_ble_eq_true rfl, Nat.le_of_ble_eq_true rfl⟩ dX12_takeVillage_4 rfl (fun H locs G => ?_)
  refine lv_istore_n (lv' := [(1, .int r_1), (0, .ref (b + 131))]) hx hb dX12_takeVillage_7 rfl hl (by decide) rfl (fun ls hl => ?_)
  refine lv_aload_n hx hb dX12_takeVillage_8 rfl (lv_at hl 1 rfl) ?_
  refine gf_X12_29 C G kd_131 (n' := 137) rfl dX12_takeVillage_9 ?_
  refine lv_aload_n hx hb dX12_takeVillage_12 rfl (lv_at hl 1 rfl) ?_
  refine gf_X12_116 C G kd_131 dX12_takeVillage_13 ?_
  refine lv_aload_n hx hb dX12_takeVillage_16 rfl (lv_at hl 1 rfl) ?_
  refine gf_X12_104 C G kd_131 dX12_takeVillage_17 ?_
  obtain ⟨g_2, hs⟩ := gdE hs
  refine m_iast C G kd_137 ln_137 g_2 hs dX12_takeVillage_20 (fun σ_2 H locs hs G => ?_)
  refine lv_aload_n hx hb dX12_takeVillage_21 rfl (lv_at hl 1 rfl) ?_
  refine lv_dup hx hb dX12_takeVillage_22 rfl ?_
  refine gf_X12_116 C G kd_131 dX12_takeVillage_23 ?_
  refine lv_iload_n hx hb dX12_takeVillage_26 rfl (lv_at hl 0 rfl) ?_
  refine lv_if_ne (tgt := 34) hx hb dX12_takeVillage_27 (by decide) (fun c_3 => ?_) (fun c_3 => ?_)
  · replace hs := ifF c_3 hs
    refine lv_iconst (v := 0) hx hb dX12_takeVillage_34 (by decide) ?_
    exact wX12_takeVillage_35 C   hs G (lv_sub hl [0] rfl)
  · replace hs := ifT c_3 hs
    refine lv_iconst (v := 1) hx hb dX12_takeVillage_30 (by decide) ?_
    refine lv_goto (tgt := 35) hx hb dX12_takeVillage_31 (by decide) ?_
    exact wX12_takeVillage_35 C   hs G (lv_sub hl [0] rfl)
-- X12_takePerson
def rmX12_takePerson : Room := { frames := 2, cells := 0, slots := 0, locals := 48 }
def fX12_takePerson_160 (σ : Sg) (x2 : Int32) (y0 : Int32) (y1 : Int32) : Option (Int32 × Sg) :=
  lt (st σ 131 17 (y1 + y0)) (fun σ_17 => some (x2, σ_17))
set_option maxRecDepth 100000 in
set_option maxHeartbeats 4000000 in
theorem wX12_takePerson_160 {p : Program} {l : Launch} {e : Env} {s : State} {m : MethodId} {args : Array Value} {below : List Frame} {meth : Method} {c : Code} {D : va_G} {cI cZ cO : ClassId} {b : Nat} (C : Cx p s m args meth c cX12_takePerson RX12 5 (some .int) D cI cZ cO) {Rr : (Int32 × Sg)} {σ : Sg} {x2 : Int32} {y0 : Int32} {y1 : Int32} {H : Heap} {locs : List Loc} {ls : Array Slot} (hs : fX12_takePerson_160 σ x2 y0 y1 = some Rr) (G : Gd b D cI cZ cO σ s.heap H locs) (hl : lv_has ls 5 [(2, .int x2)]) : W p l e rmX12_takePerson s m args below meth c H locs 0 0 (MQ below (QI b D cI cZ cO Rr) args s 0 0 (fun q => b ≤ q)) (F0 m 160 ls [.int y0, .int y1, .ref (b + 131)]) := by
  have hx := C.1
  have hb := C.2.1
  unfold fX12_takePerson_160 at hs
  refine lv_iadd hx hb dX12_takePerson_160 ?_
  refine pf_X12_119 C G kd_131 hs dX12_takePerson_161 (fun σ_17 H locs hs G => ?_)
  refine lv_iload_n hx hb dX12_takePerson_164 rfl (lv_at hl 0 rfl) ?_
  exact retI C G hs dX12_takePerson_165
def fX12_takePerson_159 (σ : Sg) (x2 : Int32) (y0 : Int32) : Option (Int32 × Sg) :=
  fX12_takePerson_160 σ x2 0 y0
set_option maxRecDepth 100000 in
set_option maxHeartbeats 4000000 in
theorem wX12_takePerson_159 {p : Program} {l : Launch} {e : Env} {s : State} {m : MethodId} {args : Array Value} {below : List Frame} {meth : Method} {c : Code} {D : va_G} {cI cZ cO : ClassId} {b : Nat} (C : Cx p s m args meth c cX12_takePerson RX12 5 (some .int) D cI cZ cO) {Rr : (Int32 × Sg)} {σ : Sg} {x2 : Int32} {y0 : Int32} {H : Heap} {locs : List Loc} {ls : Array Slot} (hs : fX12_takePerson_159 σ x2 y0 = some Rr) (G : Gd b D cI cZ cO σ s.heap H locs) (hl : lv_has ls 5 [(2, .int x2)]) : W p l e rmX12_takePerson s m args below meth c H locs 0 0 (MQ below (QI b D cI cZ cO Rr) args s 0 0 (fun q => b ≤ q)) (F0 m 159 ls [.int y0, .ref (b + 131)]) := by
  have hx := C.1
  have hb := C.2.1
  unfold fX12_takePerson_159 at hs
  refine lv_iconst (v := 0) hx hb dX12_takePerson_159 (by decide) ?_
  exact wX12_takePerson_160 C   hs G (lv_sub hl [0] rfl)
def fX12_takePerson_142 (σ : Sg) (x2 : Int32) (x3 : Int32) : Option (Int32 × Sg) :=
  (if x2 = 0 then (if x3 < 0 then fX12_takePerson_159 σ x2 (σ 131 17) else fX12_takePerson_160 σ x2 1 (σ 131 17)) else fX12_takePerson_159 σ x2 (σ 131 17))
set_option maxRecDepth 100000 in
set_option maxHeartbeats 4000000 in
theorem wX12_takePerson_142 {p : Program} {l : Launch} {e : Env} {s : State} {m : MethodId} {args : Array Value} {below : List Frame} {meth : Method} {c : Code} {D : va_G} {cI cZ cO : ClassId} {b : Nat} (C : Cx p s m args meth c cX12_takePerson RX12 5 (some .int) D cI cZ cO) {Rr : (Int32 × Sg)} {σ : Sg} {x2 : Int32} {x3 : Int32} {H : Heap} {locs : List Loc} {ls : Array Slot} (hs : fX12_takePerson_142 σ x2 x3 = some Rr) (G : Gd b D cI cZ cO σ s.heap H locs) (hl : lv_has ls 5 [(0, .ref (b + 131)), (2, .int x2), (3, .int x3)]) : W p l e rmX12_takePerson s m args below meth c H locs 0 0 (MQ below (QI b D cI cZ cO Rr) args s 0 0 (fun q => b ≤ q)) (F0 m 142 ls []) := by
  have hx := C.1
  have hb := C.2.1
  unfold fX12_takePerson_142 at hs
  refine lv_aload_n hx hb dX12_takePerson_142 rfl (lv_at hl 0 rfl) ?_
  refine lv_dup hx hb dX12_takePerson_143 rfl ?_
  refine gf_X12_119 C G kd_131 dX12_takePerson_144 ?_
  refine lv_iload_n hx hb dX12_takePerson_147 rfl (lv_at hl 1 rfl) ?_
  refine lv_if_ne (tgt := 159) hx hb dX12_takePerson_148 (by decide) (fun c_16 => ?_) (fun c_16 => ?_)
  · replace hs := ifF c_16 hs
    exact wX12_takePerson_159 C   hs G (lv_sub hl [1] rfl)
  · replace hs := ifT c_16 hs
    refine lv_iload_n hx hb dX12_takePerson_151 rfl (lv_at hl 2 rfl) ?_
    refine lv_if_lt (tgt := 159) hx hb dX12_takePerson_152 (by decide) (fun c_18 => ?_) (fun c_18 => ?_)
    · replace hs := ifT c_18 hs
      exact wX12_takePerson_159 C   hs G (lv_sub hl [1] rfl)
    · replace hs := ifF c_18 hs
      refine lv_iconst (v := 1) hx hb dX12_takePerson_155 (by decide) ?_
      refine lv_goto (tgt := 160) hx hb dX12_takePerson_156 (by decide) ?_
      exact wX12_takePerson_160 C   hs G (lv_sub hl [1] rfl)
def fX12_takePerson_67 (σ : Sg) (x1 : Int32) (y0 : Int32) : Option (Int32 × Sg) :=
  (if inb x1 7 then lt (st σ 140 x1.toNatClampNeg (σ 131 13)) (fun σ_9 => (if y0 ≤ 0 then bi (fX12_here σ_9) (fun r_11 σ_11 => lt (σ_11 131 12) (fun x4_12 => bi (fX12_takeNumber σ_11 0 9) (fun r_13 σ_13 => (if inb x1 7 then lt (st σ_13 141 x1.toNatClampNeg (σ_13 131 13)) (fun σ_14 => (if r_13 = 0 then bi (fX12_in σ_14 ((σ_14 131 13).toInt64) 7 8) (fun r_19 σ_19 => (if r_19 = 0 then fX12_takePerson_142 σ_19 r_13 r_11 else bi (fX12_fails σ_19 2 x4_12) (fun r_21 σ_21 => some (r_21, σ_21)))) else fX12_takePerson_142 σ_14 r_13 r_11)) else none)))) else some (y0, σ_9))) else none)
set_option maxRecDepth 100000 in
set_option maxHeartbeats 4000000 in
theorem wX12_takePerson_67 {p : Program} {l : Launch} {e : Env} {s : State} {m : MethodId} {args : Array Value} {below : List Frame} {meth : Method} {c : Code} {D : va_G} {cI cZ cO : ClassId} {b : Nat} (C : Cx p s m args meth c cX12_takePerson RX12 5 (some .int) D cI cZ cO) {Rr : (Int32 × Sg)} {σ : Sg} {x1 : Int32} {y0 : Int32} {H : Heap} {locs : List Loc} {ls : Array Slot} (hs : fX12_takePerson_67 σ x1 y0 = some Rr) (G : Gd b D cI cZ cO σ s.heap H locs) (hl : lv_has ls 5 [(0, .ref (b + 131)), (1, .int x1)]) : W p l e rmX12_takePerson s m args below meth c H locs 0 0 (MQ below (QI b D cI cZ cO Rr) args s 0 0 (fun q => b ≤ q)) (F0 m 67 ls [.int y0]) := by
  have hx := C.1
  have hb := C.2.1
  unfold fX12_takePerson_67 at hs
  refine lv_istore_n (lv' := [(2, .int y0), (0, .ref (b + 131)), (1, .int x1)]) hx hb dX12_takePerson_67 rfl hl (by decide) rfl (fun ls hl => ?_)
  refine lv_aload_n hx hb dX12_takePerson_68 rfl (lv_at hl 1 rfl) ?_
  refine gf_X12_38 C G kd_131 (n' := 140) rfl dX12_takePerson_69 ?_
  refine lv_iload_n hx hb dX12_takePerson_72 rfl (lv_at hl 2 rfl) ?_
  refine lv_aload_n hx hb dX12_takePerson_73 rfl (lv_at hl 1 rfl) ?_
  refine gf_X12_104 C G kd_131 dX12_takePerson_74 ?_
  obtain ⟨g_9, hs⟩ := gdE hs
  refine m_iast C G kd_140 ln_140 g_9 hs dX12_takePerson_77 (fun σ_9 H locs hs G => ?_)
  refine lv_iload_n hx hb dX12_takePerson_78 rfl (lv_at hl 0 rfl) ?_
  refine lv_if_le (tgt := 84) hx hb dX12_takePerson_79 (by decide) (fun c_10 => ?_) (fun c_10 => ?_)
  · replace hs := ifT c_10 hs
    refine lv_aload_n hx hb dX12_takePerson_84 rfl (lv_at hl 1 rfl) ?_
    obtain ⟨r_11, σ_11, hc, hs⟩ := biE hs
    refine callVI (ar := 0) (As := []) (rest := []) C G hl.1 (ctX12_here _  hc) ⟨wd_997, wd_999, wd_26, wd_81, wd_1000⟩ (by decide +kernel) rfl ⟨rfl, rfl⟩ ⟨Nat.le_of_ble_eq_true rfl, Nat.le_of_ble_eq_true rfl⟩ (kd_lt kd_131 (by decide)) (ent_12 b cI cZ cO _ kd_131) rfl (Nat.le_of_ble_eq_true rfl) ⟨Nat.le_of_ble_eq_true rfl, Nat.le_of_ble_eq_true rfl⟩ dX12_takePerson_85 rfl (fun H locs G => ?_)
    refine lv_istore_n (lv' := [(3, .int r_11), (2, .int y0), (0, .ref (b + 131)), (1, .int x1)]) hx hb dX12_takePerson_88 rfl hl (by decide) rfl (fun ls hl => ?_)
    refine lv_aload_n hx hb dX12_takePerson_89 rfl (lv_at hl 2 rfl) ?_
    refine gf_X12_89 C G kd_131 dX12_takePerson_90 ?_
    refine topI hs (fun x4_12 hs => ?_)
    refine lv_istore (lv' := [(4, .int x4_12), (3, .int r_11), (2, .int y0), (0, .ref (b + 131)), (1, .int x1)]) hx hb dX12_takePerson_93 hl (by decide) rfl (fun ls hl => ?_)
    refine lv_aload_n hx hb dX12_takePerson_95 rfl (lv_at hl 3 rfl) ?_
    refine lv_iconst (v := 0) hx hb dX12_takePerson_96 (by decide) ?_
    refine lv_bipush (v := 9) hx hb dX12_takePerson_97 (by decide) ?_
    obtain ⟨r_13, σ_13, hc, hs⟩ := biE hs
    refine callVI (ar := 2) (As := [.int 0, .int 9]) (rest := []) C G hl.1 (ctX12_takeNumber _  hc) ⟨wd_1013, wd_1015, wd_30, wd_81, wd_1016⟩ (by decide +kernel) rfl ⟨rfl, rfl⟩ ⟨Nat.le_of_ble_eq_true rfl, Nat.le_of_ble_eq_true rfl⟩ (kd_lt kd_131 (by decide)) (ent_12 b cI cZ cO _ kd_131) rfl (Nat.le_of_ble_eq_true rfl) ⟨Nat.le_of_ble_eq_true rfl, Nat.le_of_ble_eq_true rfl⟩ dX12_takePerson_99 rfl (fun H locs G => ?_)
    refine lv_istore_n (lv' := [(2, .int r_13), (4, .int x4_12), (3, .int r_11), (0, .ref (b + 131)), (1, .int x1)]) hx hb dX12_takePerson_102 rfl hl (by decide) rfl (fun ls hl => ?_)
    refine lv_aload_n hx hb dX12_takePerson_103 rfl (lv_at hl 3 rfl) ?_
    refine gf_X12_41 C G kd_131 (n' := 141) rfl dX12_takePerson_104 ?_
    refine lv_iload_n hx hb dX12_takePerson_107 rfl (lv_at hl 4 rfl) ?_
    refine lv_aload_n hx hb dX12_takePerson_108 rfl (lv_at hl 3 rfl) ?_
    refine gf_X12_104 C G kd_131 dX12_takePerson_109 ?_
    obtain ⟨g_14, hs⟩ := gdE hs
    refine m_iast C G kd_141 ln_141 g_14 hs dX12_takePerson_112 (fun σ_14 H locs hs G => ?_)
    refine lv_iload_n hx hb dX12_takePerson_113 rfl (lv_at hl 0 rfl) ?_
    refine lv_if_ne (tgt := 142) hx hb dX12_takePerson_114 (by decide) (fun c_15 => ?_) (fun c_15 => ?_)
    · replace hs := ifF c_15 hs
      exact wX12_takePerson_142 C   hs G (lv_sub hl [3, 0, 2] rfl)
    · replace hs := ifT c_15 hs
      refine lv_aload_n hx hb dX12_takePerson_117 rfl (lv_at hl 3 rfl) ?_
      refine gf_X12_104 C G kd_131 dX12_takePerson_118 ?_
      refine lv_i2l hx hb dX12_takePerson_121 rfl ?_
      refine m_ldc2 C wd_1027 dX12_takePerson_122 ?_
      refine m_ldc2 C wd_1028 dX12_takePerson_125 ?_
      obtain ⟨r_19, σ_19, hc, hs⟩ := biE hs
      refine callSI (ar := 3) (As := [.long ((σ_14 131 13).toInt64), .long 7, .long 8]) (rest := []) C G hl.1 (ctX12_in _  hc) ⟨wd_988, wd_989, wd_81, wd_990⟩ (by decide +kernel) rfl ⟨rfl, rfl⟩ ⟨Nat.le_of_ble_eq_true rfl, Nat.le_of_ble_eq_true rfl⟩ (Nat.le_of_ble_eq_true rfl) ⟨Nat.le_of_ble_eq_true rfl, Nat.le_of_ble_eq_true rfl⟩ dX12_takePerson_128 rfl (fun H locs G => ?_)
      refine lv_if_eq (tgt := 142) hx hb dX12_takePerson_131 (by decide) (fun c_20 => ?_) (fun c_20 => ?_)
      · replace hs := ifT c_20 hs
        exact wX12_takePerson_142 C   hs G (lv_sub hl [3, 0, 2] rfl)
      · replace hs := ifF c_20 hs
        refine lv_aload_n hx hb dX12_takePerson_134 rfl (lv_at hl 3 rfl) ?_
        refine lv_iconst (v := 2) hx hb dX12_takePerson_135 (by decide) ?_
        refine lv_iload hx hb dX12_takePerson_136 (lv_at hl 1 rfl) ?_
        obtain ⟨r_21, σ_21, hc, hs⟩ := biE hs
        refine callVI (ar := 2) (As := [.int 2, .int x4_12]) (rest := []) C G hl.1 (ctX12_fails _  hc) ⟨wd_1005, wd_1007, wd_28, wd_81, wd_1008⟩ (by decide +kernel) rfl ⟨rfl, rfl⟩ ⟨Nat.le_of_ble_eq_true rfl, Nat.le_of_ble_eq_true rfl⟩ (kd_lt kd_131 (by decide)) (ent_12 b cI cZ cO _ kd_131) rfl (Nat.le_of_ble_eq_true rfl) ⟨Nat.le_of_ble_eq_true rfl, Nat.le_of_ble_eq_true rfl⟩ dX12_takePerson_138 rfl (fun H locs G => ?_)
        exact retI C G hs dX12_takePerson_141
  · replace hs := ifF c_10 hs
    refine lv_iload_n hx hb dX12_takePerson_82 rfl (lv_at hl 0 rfl) ?_
    exact retI C G hs dX12_takePerson_83
def fX12_takePerson_41 (σ : Sg) (x1 : Int32) (y0 : Int32) : Option (Int32 × Sg) :=
  (if inb x1 7 then lt (st σ 139 x1.toNatClampNeg (σ 131 13)) (fun σ_6 => (if y0 ≤ 0 then bi (fX12_takeNumber σ_6 1 9) (fun r_8 σ_8 => fX12_takePerson_67 σ_8 x1 r_8) else fX12_takePerson_67 σ_6 x1 y0)) else none)
set_option maxRecDepth 100000 in
set_option maxHeartbeats 4000000 in
theorem wX12_takePerson_41 {p : Program} {l : Launch} {e : Env} {s : State} {m : MethodId} {args : Array Value} {below : List Frame} {meth : Method} {c : Code} {D : va_G} {cI cZ cO : ClassId} {b : Nat} (C : Cx p s m args meth c cX12_takePerson RX12 5 (some .int) D cI cZ cO) {Rr : (Int32 × Sg)} {σ : Sg} {x1 : Int32} {y0 : Int32} {H : Heap} {locs : List Loc} {ls : Array Slot} (hs : fX12_takePerson_41 σ x1 y0 = some Rr) (G : Gd b D cI cZ cO σ s.heap H locs) (hl : lv_has ls 5 [(0, .ref (b + 131)), (1, .int x1)]) : W p l e rmX12_takePerson s m args below meth c H locs 0 0 (MQ below (QI b D cI cZ cO Rr) args s 0 0 (fun q => b ≤ q)) (F0 m 41 ls [.int y0]) := by
  have hx := C.1
  have hb := C.2.1
  unfold fX12_takePerson_41 at hs
  refine lv_istore_n (lv' := [(2, .int y0), (0, .ref (b + 131)), (1, .int x1)]) hx hb dX12_takePerson_41 rfl hl (by decide) rfl (fun ls hl => ?_)
  refine lv_aload_n hx hb dX12_takePerson_42 rfl (lv_at hl 1 rfl) ?_
  refine gf_X12_35 C G kd_131 (n' := 139) rfl dX12_takePerson_43 ?_
  refine lv_iload_n hx hb dX12_takePerson_46 rfl (lv_at hl 2 rfl) ?_
  refine lv_aload_n hx hb dX12_takePerson_47 rfl (lv_at hl 1 rfl) ?_
  refine gf_X12_104 C G kd_131 dX12_takePerson_48 ?_
  obtain ⟨g_6, hs⟩ := gdE hs
  refine m_iast C G kd_139 ln_139 g_6 hs dX12_takePerson_51 (fun σ_6 H locs hs G => ?_)
  refine lv_iload_n hx hb dX12_takePerson_52 rfl (lv_at hl 0 rfl) ?_
  refine lv_if_le (tgt := 60) hx hb dX12_takePerson_53 (by decide) (fun c_7 => ?_) (fun c_7 => ?_)
  · replace hs := ifT c_7 hs
    refine lv_aload_n hx hb dX12_takePerson_60 rfl (lv_at hl 1 rfl) ?_
    refine lv_iconst (v := 1) hx hb dX12_takePerson_61 (by decide) ?_
    refine lv_bipush (v := 9) hx hb dX12_takePerson_62 (by decide) ?_
    obtain ⟨r_8, σ_8, hc, hs⟩ := biE hs
    refine callVI (ar := 2) (As := [.int 1, .int 9]) (rest := []) C G hl.1 (ctX12_takeNumber _  hc) ⟨wd_1013, wd_1015, wd_30, wd_81, wd_1016⟩ (by decide +kernel) rfl ⟨rfl, rfl⟩ ⟨Nat.le_of_ble_eq_true rfl, Nat.le_of_ble_eq_true rfl⟩ (kd_lt kd_131 (by decide)) (ent_12 b cI cZ cO _ kd_131) rfl (Nat.le_of_ble_eq_true rfl) ⟨Nat.le_of_ble_eq_true rfl, Nat.le_of_ble_eq_true rfl⟩ dX12_takePerson_64 rfl (fun H locs G => ?_)
    exact wX12_takePerson_67 C   hs G (lv_sub hl [1, 2] rfl)
  · replace hs := ifF c_7 hs
    refine lv_iload_n hx hb dX12_takePerson_56 rfl (lv_at hl 0 rfl) ?_
    refine lv_goto (tgt := 67) hx hb dX12_takePerson_57 (by decide) ?_
    exact wX12_takePerson_67 C   hs G (lv_sub hl [1, 2] rfl)
def fX12_takePerson (σ : Sg) : Option (Int32 × Sg) :=
  lt (σ 131 17) (fun x1_1 => bi (fX12_takeNumber σ 0 3) (fun r_2 σ_2 => (if inb x1_1 7 then lt (st σ_2 138 x1_1.toNatClampNeg (σ_2 131 13)) (fun σ_3 => (if r_2 ≤ 0 then bi (fX12_takeNumber σ_3 0 ((σ_3 131 16) - 1)) (fun r_5 σ_5 => fX12_takePerson_41 σ_5 x1_1 r_5) else fX12_takePerson_41 σ_3 x1_1 r_2)) else none)))
set_option maxRecDepth 100000 in
set_option maxHeartbeats 4000000 in
theorem ctX12_takePerson (l : Launch) {D : va_G} {cI cZ cO : ClassId} {b : Nat} {σ : Sg} {Rr : (Int32 × Sg)} (hs : fX12_takePerson σ = some Rr) : MI l yX12_takePerson cX12_takePerson 5 (some .int) rmX12_takePerson [.ref (b + 131)] b D cI cZ cO σ Rr := by
  unfold fX12_takePerson at hs
  refine metI (by decide +kernel) (Nat.le_of_ble_eq_true rfl) (fun p e s m below meth c ls C G hl => ?_)
  have C : Cx p s m _ meth c cX12_takePerson RX12 5 (some .int) D cI cZ cO := C
  have hx := C.1
  have hb := C.2.1
  have hl : lv_has ls 5 [(0, .ref (b + 131))] := hl
  refine lv_aload_n hx hb dX12_takePerson_0 rfl (lv_at hl 0 rfl) ?_
  refine gf_X12_119 C G kd_131 dX12_takePerson_1 ?_
  refine topI hs (fun x1_1 hs => ?_)
  refine lv_istore_n (lv' := [(1, .int x1_1), (0, .ref (b + 131))]) hx hb dX12_takePerson_4 rfl hl (by decide) rfl (fun ls hl => ?_)
  refine lv_aload_n hx hb dX12_takePerson_5 rfl (lv_at hl 1 rfl) ?_
  refine lv_iconst (v := 0) hx hb dX12_takePerson_6 (by decide) ?_
  refine lv_iconst (v := 3) hx hb dX12_takePerson_7 (by decide) ?_
  obtain ⟨r_2, σ_2, hc, hs⟩ := biE hs
  refine callVI (ar := 2) (As := [.int 0, .int 3]) (rest := []) C G hl.1 (ctX12_takeNumber _  hc) ⟨wd_1013, wd_1015, wd_30, wd_81, wd_1016⟩ (by decide +kernel) rfl ⟨rfl, rfl⟩ ⟨Nat.le_of_ble_eq_true rfl, Nat.le_of_ble_eq_true rfl⟩ (kd_lt kd_131 (by decide)) (ent_12 b cI cZ cO _ kd_131) rfl (Nat.le_of_ble_eq_true rfl) ⟨Nat.le_of_ble_eq_true rfl, Nat.le_of_ble_eq_true rfl⟩ dX12_takePerson_8 rfl (fun H locs G => ?_)
  refine lv_istore_n (lv' := [(2, .int r_2), (1, .int x1_1), (0, .ref (b + 131))]) hx hb dX12_takePerson_11 rfl hl (by decide) rfl (fun ls hl => ?_)
  refine lv_aload_n hx hb dX12_takePerson_12 rfl (lv_at hl 2 rfl) ?_
  refine gf_X12_32 C G kd_131 (n' := 138) rfl dX12_takePerson_13 ?_
  refine lv_iload_n hx hb dX12_takePerson_16 rfl (lv_at hl 1 rfl) ?_
  refine lv_aload_n hx hb dX12_takePerson_17 rfl (lv_at hl 2 rfl) ?_
  refine gf_X12_104 C G kd_131 dX12_takePerson_18 ?_
  obtain ⟨g_3, hs⟩ := gdE hs
  refine m_iast C G kd_138 ln_138 g_3 hs dX12_takePerson_21 (fun σ_3 H locs hs G => ?_)
  refine lv_iload_n hx hb dX12_takePerson_22 rfl (lv_at hl 0 rfl) ?_
  refine lv_if_le (tgt := 30) hx hb dX12_takePerson_23 (by decide) (fun c_4 => ?_) (fun c_4 => ?_)
  · replace hs := ifT c_4 hs
    refine lv_aload_n hx hb dX12_takePerson_30 rfl (lv_at hl 2 rfl) ?_
    refine lv_iconst (v := 0) hx hb dX12_takePerson_31 (by decide) ?_
    refine lv_aload_n hx hb dX12_takePerson_32 rfl (lv_at hl 2 rfl) ?_
    refine gf_X12_116 C G kd_131 dX12_takePerson_33 ?_
    refine lv_iconst (v := 1) hx hb dX12_takePerson_36 (by decide) ?_
    refine lv_isub hx hb dX12_takePerson_37 ?_
    obtain ⟨r_5, σ_5, hc, hs⟩ := biE hs
    refine callVI (ar := 2) (As := [.int 0, .int ((σ_3 131 16) - 1)]) (rest := []) C G hl.1 (ctX12_takeNumber _  hc) ⟨wd_1013, wd_1015, wd_30, wd_81, wd_1016⟩ (by decide +kernel) rfl ⟨rfl, rfl⟩ ⟨Nat.le_of_ble_eq_true rfl, Nat.le_of_ble_eq_true rfl⟩ (kd_lt kd_131 (by decide)) (ent_12 b cI cZ cO _ kd_131) rfl (Nat.le_of_ble_eq_true rfl) ⟨Nat.le_of_ble_eq_true rfl, Nat.le_of_ble_eq_true rfl⟩ dX12_takePerson_38 rfl (fun H locs G => ?_)
    exact wX12_takePerson_41 C   hs G (lv_sub hl [2, 1] rfl)
  · replace hs := ifF c_4 hs
    refine lv_iload_n hx hb dX12_takePerson_26 rfl (lv_at hl 0 rfl) ?_
    refine lv_goto (tgt := 41) hx hb dX12_takePerson_27 (by decide) ?_
    exact wX12_takePerson_41 C   hs G (lv_sub hl [2, 1] rfl)
