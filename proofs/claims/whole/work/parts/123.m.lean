-- X12_match
def rmX12_match : Room := { frames := 4, cells := 0, slots := 0, locals := 96 }
def fX12_match_16 (σ : Sg) (x1 : Int32) : Option (Int32 × Sg) :=
  bv (fX12_layLeast σ) (fun σ_2 => (if x1 = (-1) then (if inb 3 60 then (if inb (σ_2 136 (3 : Int32).toNatClampNeg) 1024 then some ((σ_2 144 (σ_2 136 (3 : Int32).toNatClampNeg).toNatClampNeg), σ_2) else none) else none) else bi (fX12_goerFor σ_2 x1) (fun r_4 σ_4 => some (r_4, σ_4))))
set_option maxRecDepth 100000 in
set_option maxHeartbeats 4000000 in
theorem wX12_match_16 {p : Program} {l : Launch} {e : Env} {s : State} {m : MethodId} {args : Array Value} {below : List Frame} {meth : Method} {c : Code} {D : va_G} {cI cZ cO : ClassId} {b : Nat} (C : Cx p s m args meth c cX12_match RX12 2 (some .int) D cI cZ cO) {Rr : (Int32 × Sg)} {σ : Sg} {x1 : Int32} {H : Heap} {locs : List Loc} {ls : Array Slot} (hs : fX12_match_16 σ x1 = some Rr) (G : Gd b D cI cZ cO σ s.heap H locs) (hl : lv_has ls 2 [(0, .ref (b + 132)), (1, .int x1)]) : W p l e rmX12_match s m args below meth c H locs 0 0 (MQ below (QI b D cI cZ cO Rr) args s 0 0 (fun q => b ≤ q)) (F0 m 16 ls []) := by
  have hx := C.1
  have hb := C.2.1
  unfold fX12_match_16 at hs
  refine lv_aload_n hx hb dX12_match_16 rfl (lv_at hl 0 rfl) ?_
  obtain ⟨σ_2, hc, hs⟩ := bvE hs
  refine callVV (ar := 0) (As := []) (rest := []) C G hl.1 (ctX12_layLeast _  hc) ⟨wd_1221, wd_1223, wd_63, wd_81, wd_1224⟩ (by decide +kernel) rfl ⟨rfl, rfl⟩ ⟨Nat.le_of_ble_eq_true rfl, Nat.le_of_ble_eq_true rfl⟩ (kd_lt kd_132 (by decide)) (ent_12 b cI cZ cO _ kd_132) rfl (Nat.le_of_ble_eq_true rfl) ⟨Nat.le_of_ble_eq_true rfl, Nat.le_of_ble_eq_true rfl⟩ dX12_match_17 rfl (fun H locs G => ?_)
  refine lv_iload_n hx hb dX12_match_20 rfl (lv_at hl 1 rfl) ?_
  refine lv_iconst (v := (-1)) hx hb dX12_match_21 (by decide) ?_
  refine lv_icmp_ne (tgt := 39) hx hb dX12_match_22 (by decide) (fun c_3 => ?_) (fun c_3 => ?_)
  · replace hs := ifF c_3 hs
    refine lv_aload_n hx hb dX12_match_39 rfl (lv_at hl 0 rfl) ?_
    refine lv_iload_n hx hb dX12_match_40 rfl (lv_at hl 1 rfl) ?_
    obtain ⟨r_4, σ_4, hc, hs⟩ := biE hs
    refine callVI (ar := 1) (As := [.int x1]) (rest := []) C G hl.1 (ctX12_goerFor _  hc) ⟨wd_1229, wd_1231, wd_65, wd_81, wd_1232⟩ (by decide +kernel) rfl ⟨rfl, rfl⟩ ⟨Nat.le_of_ble_eq_true rfl, Nat.le_of_ble_eq_true rfl⟩ (kd_lt kd_132 (by decide)) (ent_12 b cI cZ cO _ kd_132) rfl (Nat.le_of_ble_eq_true rfl) ⟨Nat.le_of_ble_eq_true rfl, Nat.le_of_ble_eq_true rfl⟩ dX12_match_41 rfl (fun H locs G => ?_)
    exact retI C G hs dX12_match_44
  · replace hs := ifT c_3 hs
    refine lv_aload_n hx hb dX12_match_25 rfl (lv_at hl 0 rfl) ?_
    refine gf_X12_47 C G kd_132 (n' := 144) rfl dX12_match_26 ?_
    refine lv_aload_n hx hb dX12_match_29 rfl (lv_at hl 0 rfl) ?_
    refine gf_X12_19 C G kd_132 (n' := 136) rfl dX12_match_30 ?_
    refine lv_iconst (v := 3) hx hb dX12_match_33 (by decide) ?_
    obtain ⟨g_5, hs⟩ := gdE hs
    refine m_iald C G kd_136 ln_136 g_5 dX12_match_34 ?_
    obtain ⟨g_6, hs⟩ := gdE hs
    refine m_iald C G kd_144 ln_144 g_6 dX12_match_35 ?_
    refine lv_goto (tgt := 44) hx hb dX12_match_36 (by decide) ?_
    exact retI C G hs dX12_match_44
def fX12_match (σ : Sg) (x1 : Int32) : Option (Int32 × Sg) :=
  (if x1 = (-1) then fX12_match_16 σ x1 else bi (fX12_isPerson σ x1) (fun r_7 σ_7 => (if r_7 = 0 then some ((-1000000001), σ_7) else fX12_match_16 σ_7 x1)))
set_option maxRecDepth 100000 in
set_option maxHeartbeats 4000000 in
theorem ctX12_match (l : Launch) {D : va_G} {cI cZ cO : ClassId} {b : Nat} {σ : Sg} {x1 : Int32} {Rr : (Int32 × Sg)} (hs : fX12_match σ x1 = some Rr) : MI l yX12_match cX12_match 2 (some .int) rmX12_match [.ref (b + 132), .int x1] b D cI cZ cO σ Rr := by
  unfold fX12_match at hs
  refine metI (by decide +kernel) (Nat.le_of_ble_eq_true rfl) (fun p e s m below meth c ls C G hl => ?_)
  have C : Cx p s m _ meth c cX12_match RX12 2 (some .int) D cI cZ cO := C
  have hx := C.1
  have hb := C.2.1
  have hl : lv_has ls 2 [(0, .ref (b + 132)), (1, .int x1)] := hl
  refine lv_iload_n hx hb dX12_match_0 rfl (lv_at hl 1 rfl) ?_
  refine lv_iconst (v := (-1)) hx hb dX12_match_1 (by decide) ?_
  refine lv_icmp_eq (tgt := 16) hx hb dX12_match_2 (by decide) (fun c_1 => ?_) (fun c_1 => ?_)
  · replace hs := ifT c_1 hs
    exact wX12_match_16 C   hs G (lv_sub hl [0, 1] rfl)
  · replace hs := ifF c_1 hs
    refine lv_aload_n hx hb dX12_match_5 rfl (lv_at hl 0 rfl) ?_
    refine lv_iload_n hx hb dX12_match_6 rfl (lv_at hl 1 rfl) ?_
    obtain ⟨r_7, σ_7, hc, hs⟩ := biE hs
    refine callVI (ar := 1) (As := [.int x1]) (rest := []) C G hl.1 (ctX12_isPerson _  hc) ⟨wd_1107, wd_1109, wd_48, wd_81, wd_1110⟩ (by decide +kernel) rfl ⟨rfl, rfl⟩ ⟨Nat.le_of_ble_eq_true rfl, Nat.le_of_ble_eq_true rfl⟩ (kd_lt kd_132 (by decide)) (ent_12 b cI cZ cO _ kd_132) rfl (Nat.le_of_ble_eq_true rfl) ⟨Nat.le_of_ble_eq_true rfl, Nat.le_of_ble_eq_true rfl⟩ dX12_match_7 rfl (fun H locs G => ?_)
    refine lv_if_ne (tgt := 16) hx hb dX12_match_10 (by decide) (fun c_8 => ?_) (fun c_8 => ?_)
    · replace hs := ifF c_8 hs
      exact wX12_match_16 C   hs G (lv_sub hl [0, 1] rfl)
    · replace hs := ifT c_8 hs
      refine m_ldc C wd_1111 dX12_match_13 ?_
      exact retI C G hs dX12_match_15
-- X12_sumAt
def rmX12_sumAt : Room := { frames := 0, cells := 0, slots := 0, locals := 0 }
def fX12_sumAt_45 (kh : Sg → Int32 → Int32 → Int32 → Option (Int32 × Sg)) (kx : Sg → Int32 → Option (Int32 × Sg)) (σ : Sg) (x1 : Int32) (x4 : Int32) (y0 : Int32) (y1 : Int32) : Option (Int32 × Sg) :=
  lt (y1 + y0) (fun x3_5 => lt (x4 + 1) (fun x4_6 => kh σ x1 x3_5 x4_6))
set_option maxRecDepth 100000 in
set_option maxHeartbeats 4000000 in
theorem wX12_sumAt_45 {p : Program} {l : Launch} {e : Env} {s : State} {m : MethodId} {args : Array Value} {below : List Frame} {meth : Method} {c : Code} {D : va_G} {cI cZ cO : ClassId} {b : Nat} (C : Cx p s m args meth c cX12_sumAt RX12 5 (some .int) D cI cZ cO) {Rr : (Int32 × Sg)} {kh : Sg → Int32 → Int32 → Int32 → Option (Int32 × Sg)} {kx : Sg → Int32 → Option (Int32 × Sg)} (hh : ∀ (σ : Sg) (x1 : Int32) (x3 : Int32) (x4 : Int32) (H : Heap) (locs : List Loc) (ls : Array Slot), kh σ x1 x3 x4 = some Rr → Gd b D cI cZ cO σ s.heap H locs → lv_has ls 5 [(0, .ref (b + 132)), (1, .int x1), (3, .int x3), (4, .int x4)] → W p l e rmX12_sumAt s m args below meth c H locs 0 0 (MQ below (QI b D cI cZ cO Rr) args s 0 0 (fun q => b ≤ q)) (F0 m 7 ls [])) (hxx : ∀ (σ : Sg) (x3 : Int32) (H : Heap) (locs : List Loc) (ls : Array Slot), kx σ x3 = some Rr → Gd b D cI cZ cO σ s.heap H locs → lv_has ls 5 [(3, .int x3)] → W p l e rmX12_sumAt s m args below meth c H locs 0 0 (MQ below (QI b D cI cZ cO Rr) args s 0 0 (fun q => b ≤ q)) (F0 m 53 ls [])) {σ : Sg} {x1 : Int32} {x4 : Int32} {y0 : Int32} {y1 : Int32} {H : Heap} {locs : List Loc} {ls : Array Slot} (hs : fX12_sumAt_45 kh kx σ x1 x4 y0 y1 = some Rr) (G : Gd b D cI cZ cO σ s.heap H locs) (hl : lv_has ls 5 [(0, .ref (b + 132)), (1, .int x1), (4, .int x4)]) : W p l e rmX12_sumAt s m args below meth c H locs 0 0 (MQ below (QI b D cI cZ cO Rr) args s 0 0 (fun q => b ≤ q)) (F0 m 45 ls [.int y0, .int y1]) := by
  have hx := C.1
  have hb := C.2.1
  unfold fX12_sumAt_45 at hs
  refine lv_iadd hx hb dX12_sumAt_45 ?_
  refine topI hs (fun x3_5 hs => ?_)
  refine lv_istore_n (lv' := [(3, .int x3_5), (0, .ref (b + 132)), (1, .int x1), (4, .int x4)]) hx hb dX12_sumAt_46 rfl hl (by decide) rfl (fun ls hl => ?_)
  obtain ⟨x4_6, e_6, hs⟩ := ltE hs
  refine lv_iinc (v := x4_6) (lv' := [(4, .int x4_6), (3, .int x3_5), (0, .ref (b + 132)), (1, .int x1)]) hx hb dX12_sumAt_47 hl (k := 3) rfl (by rw [e_6]; rfl) (by decide) rfl (fun ls hl => ?_)
  refine lv_goto (tgt := 7) hx hb dX12_sumAt_50 (by decide) ?_
  exact hh _ _ _ _ _ _ _ hs G (lv_sub hl [2, 3, 1, 0] rfl)
def fX12_sumAt_7b (kh : Sg → Int32 → Int32 → Int32 → Option (Int32 × Sg)) (kx : Sg → Int32 → Option (Int32 × Sg)) (σ : Sg) (x1 : Int32) (x3 : Int32) (x4 : Int32) : Option (Int32 × Sg) :=
  (if (σ 132 2) ≤ x4 then kx σ x3 else (if inb (26 + x4) 60 then (if x1 ≤ (σ 136 (26 + x4).toNatClampNeg) then fX12_sumAt_45 kh kx σ x1 x4 x1 x3 else (if inb (26 + x4) 60 then fX12_sumAt_45 kh kx σ x1 x4 (σ 136 (26 + x4).toNatClampNeg) x3 else none)) else none))
set_option maxRecDepth 100000 in
set_option maxHeartbeats 4000000 in
theorem wX12_sumAt_7b {p : Program} {l : Launch} {e : Env} {s : State} {m : MethodId} {args : Array Value} {below : List Frame} {meth : Method} {c : Code} {D : va_G} {cI cZ cO : ClassId} {b : Nat} (C : Cx p s m args meth c cX12_sumAt RX12 5 (some .int) D cI cZ cO) {Rr : (Int32 × Sg)} {kh : Sg → Int32 → Int32 → Int32 → Option (Int32 × Sg)} {kx : Sg → Int32 → Option (Int32 × Sg)} (hh : ∀ (σ : Sg) (x1 : Int32) (x3 : Int32) (x4 : Int32) (H : Heap) (locs : List Loc) (ls : Array Slot), kh σ x1 x3 x4 = some Rr → Gd b D cI cZ cO σ s.heap H locs → lv_has ls 5 [(0, .ref (b + 132)), (1, .int x1), (3, .int x3), (4, .int x4)] → W p l e rmX12_sumAt s m args below meth c H locs 0 0 (MQ below (QI b D cI cZ cO Rr) args s 0 0 (fun q => b ≤ q)) (F0 m 7 ls [])) (hxx : ∀ (σ : Sg) (x3 : Int32) (H : Heap) (locs : List Loc) (ls : Array Slot), kx σ x3 = some Rr → Gd b D cI cZ cO σ s.heap H locs → lv_has ls 5 [(3, .int x3)] → W p l e rmX12_sumAt s m args below meth c H locs 0 0 (MQ below (QI b D cI cZ cO Rr) args s 0 0 (fun q => b ≤ q)) (F0 m 53 ls [])) {σ : Sg} {x1 : Int32} {x3 : Int32} {x4 : Int32} {H : Heap} {locs : List Loc} {ls : Array Slot} (hs : fX12_sumAt_7b kh kx σ x1 x3 x4 = some Rr) (G : Gd b D cI cZ cO σ s.heap H locs) (hl : lv_has ls 5 [(0, .ref (b + 132)), (1, .int x1), (3, .int x3), (4, .int x4)]) : W p l e rmX12_sumAt s m args below meth c H locs 0 0 (MQ below (QI b D cI cZ cO Rr) args s 0 0 (fun q => b ≤ q)) (F0 m 7 ls []) := by
  have hx := C.1
  have hb := C.2.1
  unfold fX12_sumAt_7b at hs
  refine lv_iload hx hb dX12_sumAt_7 (lv_at hl 3 rfl) ?_
  refine lv_aload_n hx hb dX12_sumAt_9 rfl (lv_at hl 0 rfl) ?_
  refine gf_X12_79 C G kd_132 dX12_sumAt_10 ?_
  refine lv_icmp_ge (tgt := 53) hx hb dX12_sumAt_13 (by decide) (fun c_2 => ?_) (fun c_2 => ?_)
  · replace hs := ifT c_2 hs
    exact hxx _ _ _ _ _ hs G (lv_sub hl [2] rfl)
  · replace hs := ifF c_2 hs
    refine lv_iload_n hx hb dX12_sumAt_16 rfl (lv_at hl 2 rfl) ?_
    refine lv_aload_n hx hb dX12_sumAt_17 rfl (lv_at hl 0 rfl) ?_
    refine gf_X12_19 C G kd_132 (n' := 136) rfl dX12_sumAt_18 ?_
    refine lv_bipush (v := 26) hx hb dX12_sumAt_21 (by decide) ?_
    refine lv_iload hx hb dX12_sumAt_23 (lv_at hl 3 rfl) ?_
    refine lv_iadd hx hb dX12_sumAt_25 ?_
    obtain ⟨g_3, hs⟩ := gdE hs
    refine m_iald C G kd_136 ln_136 g_3 dX12_sumAt_26 ?_
    refine lv_iload_n hx hb dX12_sumAt_27 rfl (lv_at hl 1 rfl) ?_
    refine lv_icmp_ge (tgt := 44) hx hb dX12_sumAt_28 (by decide) (fun c_4 => ?_) (fun c_4 => ?_)
    · replace hs := ifT c_4 hs
      refine lv_iload_n hx hb dX12_sumAt_44 rfl (lv_at hl 1 rfl) ?_
      exact wX12_sumAt_45 C  hh hxx hs G (lv_sub hl [0, 1, 3] rfl)
    · replace hs := ifF c_4 hs
      refine lv_aload_n hx hb dX12_sumAt_31 rfl (lv_at hl 0 rfl) ?_
      refine gf_X12_19 C G kd_132 (n' := 136) rfl dX12_sumAt_32 ?_
      refine lv_bipush (v := 26) hx hb dX12_sumAt_35 (by decide) ?_
      refine lv_iload hx hb dX12_sumAt_37 (lv_at hl 3 rfl) ?_
      refine lv_iadd hx hb dX12_sumAt_39 ?_
      obtain ⟨g_7, hs⟩ := gdE hs
      refine m_iald C G kd_136 ln_136 g_7 dX12_sumAt_40 ?_
      refine lv_goto (tgt := 45) hx hb dX12_sumAt_41 (by decide) ?_
      exact wX12_sumAt_45 C  hh hxx hs G (lv_sub hl [0, 1, 3] rfl)
def fX12_sumAt_7 : Nat → (Sg → Int32 → Option (Int32 × Sg)) → Sg → Int32 → Int32 → Int32 → Option (Int32 × Sg)
  | 0, _, _, _, _, _ => none
  | fu + 1, kx, σ, x1, x3, x4 => fX12_sumAt_7b (fX12_sumAt_7 fu kx) kx σ x1 x3 x4
theorem fX12_sumAt_7_s (fu : Nat) (kx : Sg → Int32 → Option (Int32 × Sg)) (σ : Sg) (x1 : Int32) (x3 : Int32) (x4 : Int32) : fX12_sumAt_7 (fu + 1) kx σ x1 x3 x4 = fX12_sumAt_7b (fX12_sumAt_7 fu kx) kx σ x1 x3 x4 := by rw [fX12_sumAt_7]
theorem wX12_sumAt_7 {p : Program} {l : Launch} {e : Env} {s : State} {m : MethodId} {args : Array Value} {below : List Frame} {meth : Method} {c : Code} {D : va_G} {cI cZ cO : ClassId} {b : Nat} (C : Cx p s m args meth c cX12_sumAt RX12 5 (some .int) D cI cZ cO) {Rr : (Int32 × Sg)} {kx : Sg → Int32 → Option (Int32 × Sg)} (hxx : ∀ (σ : Sg) (x3 : Int32) (H : Heap) (locs : List Loc) (ls : Array Slot), kx σ x3 = some Rr → Gd b D cI cZ cO σ s.heap H locs → lv_has ls 5 [(3, .int x3)] → W p l e rmX12_sumAt s m args below meth c H locs 0 0 (MQ below (QI b D cI cZ cO Rr) args s 0 0 (fun q => b ≤ q)) (F0 m 53 ls [])) : ∀ (fu : Nat) (σ : Sg) (x1 : Int32) (x3 : Int32) (x4 : Int32) (H : Heap) (locs : List Loc) (ls : Array Slot), fX12_sumAt_7 fu kx σ x1 x3 x4 = some Rr → Gd b D cI cZ cO σ s.heap H locs → lv_has ls 5 [(0, .ref (b + 132)), (1, .int x1), (3, .int x3), (4, .int x4)] → W p l e rmX12_sumAt s m args below meth c H locs 0 0 (MQ below (QI b D cI cZ cO Rr) args s 0 0 (fun q => b ≤ q)) (F0 m 7 ls []) := by
  intro fu
  induction fu with
  | zero => intro σ x1 x3 x4 H locs ls hs; cases hs
  | succ fu ih =>
    intro σ x1 x3 x4 H locs ls hs G hl
    exact wX12_sumAt_7b C (fun σ x1 x3 x4 H locs ls hs G hl => ih σ x1 x3 x4 H locs ls hs G hl) hxx hs G hl
def fX12_sumAt (σ : Sg) (x1 : Int32) (x2 : Int32) : Option (Int32 × Sg) :=
  lt (x2 + 1) (fun x4_1 => fX12_sumAt_7 FU (fun σ_8 x3_8 => some (x3_8, σ_8)) σ x1 0 x4_1)
set_option maxRecDepth 100000 in
set_option maxHeartbeats 4000000 in
theorem ctX12_sumAt (l : Launch) {D : va_G} {cI cZ cO : ClassId} {b : Nat} {σ : Sg} {x1 : Int32} {x2 : Int32} {Rr : (Int32 × Sg)} (hs : fX12_sumAt σ x1 x2 = some Rr) : MI l yX12_sumAt cX12_sumAt 5 (some .int) rmX12_sumAt [.ref (b + 132), .int x1, .int x2] b D cI cZ cO σ Rr := by
  unfold fX12_sumAt at hs
  refine metI (by decide +kernel) (Nat.le_of_ble_eq_true rfl) (fun p e s m below meth c ls C G hl => ?_)
  have C : Cx p s m _ meth c cX12_sumAt RX12 5 (some .int) D cI cZ cO := C
  have hx := C.1
  have hb := C.2.1
  have hl : lv_has ls 5 [(0, .ref (b + 132)), (1, .int x1), (2, .int x2)] := hl
  refine lv_iconst (v := 0) hx hb dX12_sumAt_0 (by decide) ?_
  refine lv_istore_n (lv' := [(3, .int 0), (0, .ref (b + 132)), (1, .int x1), (2, .int x2)]) hx hb dX12_sumAt_1 rfl hl (by decide) rfl (fun ls hl => ?_)
  refine lv_iload_n hx hb dX12_sumAt_2 rfl (lv_at hl 3 rfl) ?_
  refine lv_iconst (v := 1) hx hb dX12_sumAt_3 (by decide) ?_
  refine lv_iadd hx hb dX12_sumAt_4 ?_
  refine topI hs (fun x4_1 hs => ?_)
  refine lv_istore (lv' := [(4, .int x4_1), (3, .int 0), (0, .ref (b + 132)), (1, .int x1), (2, .int x2)]) hx hb dX12_sumAt_5 hl (by decide) rfl (fun ls hl => ?_)
  refine wX12_sumAt_7 C (fun σ_8 x3_8 H locs ls hs G hl => ?_) FU _ _ _ _ _ _ _ hs G (lv_sub hl [2, 3, 1, 0] rfl)
  refine lv_iload_n hx hb dX12_sumAt_53 rfl (lv_at hl 0 rfl) ?_
  exact retI C G hs dX12_sumAt_54
-- X12_levelOf
def rmX12_levelOf : Room := { frames := 1, cells := 0, slots := 0, locals := 24 }
def fX12_levelOf_4b (kh : Sg → Int32 → Int32 → Int32 → Option (Int32 × Sg)) (kx : Sg → Int32 → Int32 → Int32 → Option (Int32 × Sg)) (σ : Sg) (x1 : Int32) (x2 : Int32) (x3 : Int32) : Option (Int32 × Sg) :=
  (if x1 ≤ x3 then kx σ x1 x2 x3 else (if 100 ≤ x2 then kx σ x1 x2 x3 else lt (x2 + 1) (fun x2_3 => bi (fX12_sumAt σ x2_3 (-1)) (fun r_4 σ_4 => kh σ_4 x1 x2_3 r_4))))
set_option maxRecDepth 100000 in
set_option maxHeartbeats 4000000 in
theorem wX12_levelOf_4b {p : Program} {l : Launch} {e : Env} {s : State} {m : MethodId} {args : Array Value} {below : List Frame} {meth : Method} {c : Code} {D : va_G} {cI cZ cO : ClassId} {b : Nat} (C : Cx p s m args meth c cX12_levelOf RX12 4 (some .int) D cI cZ cO) {Rr : (Int32 × Sg)} {kh : Sg → Int32 → Int32 → Int32 → Option (Int32 × Sg)} {kx : Sg → Int32 → Int32 → Int32 → Option (Int32 × Sg)} (hh : ∀ (σ : Sg) (x1 : Int32) (x2 : Int32) (x3 : Int32) (H : Heap) (locs : List Loc) (ls : Array Slot), kh σ x1 x2 x3 = some Rr → Gd b D cI cZ cO σ s.heap H locs → lv_has ls 4 [(0, .ref (b + 132)), (1, .int x1), (2, .int x2), (3, .int x3)] → W p l e rmX12_levelOf s m args below meth c H locs 0 0 (MQ below (QI b D cI cZ cO Rr) args s 0 0 (fun q => b ≤ q)) (F0 m 4 ls [])) (hxx : ∀ (σ : Sg) (x1 : Int32) (x2 : Int32) (x3 : Int32) (H : Heap) (locs : List Loc) (ls : Array Slot), kx σ x1 x2 x3 = some Rr → Gd b D cI cZ cO σ s.heap H locs → lv_has ls 4 [(1, .int x1), (2, .int x2), (3, .int x3)] → W p l e rmX12_levelOf s m args below meth c H locs 0 0 (MQ below (QI b D cI cZ cO Rr) args s 0 0 (fun q => b ≤ q)) (F0 m 28 ls [])) {σ : Sg} {x1 : Int32} {x2 : Int32} {x3 : Int32} {H : Heap} {locs : List Loc} {ls : Array Slot} (hs : fX12_levelOf_4b kh kx σ x1 x2 x3 = some Rr) (G : Gd b D cI cZ cO σ s.heap H locs) (hl : lv_has ls 4 [(0, .ref (b + 132)), (1, .int x1), (2, .int x2), (3, .int x3)]) : W p l e rmX12_levelOf s m args below meth c H locs 0 0 (MQ below (QI b D cI cZ cO Rr) args s 0 0 (fun q => b ≤ q)) (F0 m 4 ls []) := by
  have hx := C.1
  have hb := C.2.1
  unfold fX12_levelOf_4b at hs
  refine lv_iload_n hx hb dX12_levelOf_4 rfl (lv_at hl 3 rfl) ?_
  refine lv_iload_n hx hb dX12_levelOf_5 rfl (lv_at hl 1 rfl) ?_
  refine lv_icmp_ge (tgt := 28) hx hb dX12_levelOf_6 (by decide) (fun c_1 => ?_) (fun c_1 => ?_)
  · replace hs := ifT c_1 hs
    exact hxx _ _ _ _ _ _ _ hs G (lv_sub hl [1, 2, 3] rfl)
  · replace hs := ifF c_1 hs
    refine lv_iload_n hx hb dX12_levelOf_9 rfl (lv_at hl 2 rfl) ?_
    refine lv_bipush (v := 100) hx hb dX12_levelOf_10 (by decide) ?_
    refine lv_icmp_ge (tgt := 28) hx hb dX12_levelOf_12 (by decide) (fun c_2 => ?_) (fun c_2 => ?_)
    · replace hs := ifT c_2 hs
      exact hxx _ _ _ _ _ _ _ hs G (lv_sub hl [1, 2, 3] rfl)
    · replace hs := ifF c_2 hs
      obtain ⟨x2_3, e_3, hs⟩ := ltE hs
      refine lv_iinc (v := x2_3) (lv' := [(2, .int x2_3), (0, .ref (b + 132)), (1, .int x1), (3, .int x3)]) hx hb dX12_levelOf_15 hl (k := 2) rfl (by rw [e_3]; rfl) (by decide) rfl (fun ls hl => ?_)
      refine lv_aload_n hx hb dX12_levelOf_18 rfl (lv_at hl 1 rfl) ?_
      refine lv_iload_n hx hb dX12_levelOf_19 rfl (lv_at hl 0 rfl) ?_
      refine lv_iconst (v := (-1)) hx hb dX12_levelOf_20 (by decide) ?_
      obtain ⟨r_4, σ_4, hc, hs⟩ := biE hs
      refine callVI (ar := 2) (As := [.int x2_3, .int (-1)]) (rest := []) C G hl.1 (ctX12_sumAt _  hc) ⟨wd_1242, wd_1244, wd_67, wd_81, wd_1245⟩ (by decide +kernel) rfl ⟨rfl, rfl⟩ ⟨Nat.le_of_ble_eq_true rfl, Nat.le_of_ble_eq_true rfl⟩ (kd_lt kd_132 (by decide)) (ent_12 b cI cZ cO _ kd_132) rfl (Nat.le_of_ble_eq_true rfl) ⟨Nat.le_of_ble_eq_true rfl, Nat.le_of_ble_eq_true rfl⟩ dX12_levelOf_21 rfl (fun H locs G => ?_)
      refine lv_istore_n (lv' := [(3, .int r_4), (2, .int x2_3), (0, .ref (b + 132)), (1, .int x1)]) hx hb dX12_levelOf_24 rfl hl (by decide) rfl (fun ls hl => ?_)
      refine lv_goto (tgt := 4) hx hb dX12_levelOf_25 (by decide) ?_
      exact hh _ _ _ _ _ _ _ hs G (lv_sub hl [2, 3, 1, 0] rfl)
def fX12_levelOf_4 : Nat → (Sg → Int32 → Int32 → Int32 → Option (Int32 × Sg)) → Sg → Int32 → Int32 → Int32 → Option (Int32 × Sg)
  | 0, _, _, _, _, _ => none
  | fu + 1, kx, σ, x1, x2, x3 => fX12_levelOf_4b (fX12_levelOf_4 fu kx) kx σ x1 x2 x3
theorem fX12_levelOf_4_s (fu : Nat) (kx : Sg → Int32 → Int32 → Int32 → Option (Int32 × Sg)) (σ : Sg) (x1 : Int32) (x2 : Int32) (x3 : Int32) : fX12_levelOf_4 (fu + 1) kx σ x1 x2 x3 = fX12_levelOf_4b (fX12_levelOf_4 fu kx) kx σ x1 x2 x3 := by rw [fX12_levelOf_4]
theorem wX12_levelOf_4 {p : Program} {l : Launch} {e : Env} {s : State} {m : MethodId} {args : Array Value} {below : List Frame} {meth : Method} {c : Code} {D : va_G} {cI cZ cO : ClassId} {b : Nat} (C : Cx p s m args meth c cX12_levelOf RX12 4 (some .int) D cI cZ cO) {Rr : (Int32 × Sg)} {kx : Sg → Int32 → Int32 → Int32 → Option (Int32 × Sg)} (hxx : ∀ (σ : Sg) (x1 : Int32) (x2 : Int32) (x3 : Int32) (H : Heap) (locs : List Loc) (ls : Array Slot), kx σ x1 x2 x3 = some Rr → Gd b D cI cZ cO σ s.heap H locs → lv_has ls 4 [(1, .int x1), (2, .int x2), (3, .int x3)] → W p l e rmX12_levelOf s m args below meth c H locs 0 0 (MQ below (QI b D cI cZ cO Rr) args s 0 0 (fun q => b ≤ q)) (F0 m 28 ls [])) : ∀ (fu : Nat) (σ : Sg) (x1 : Int32) (x2 : Int32) (x3 : Int32) (H : Heap) (locs : List Loc) (ls : Array Slot), fX12_levelOf_4 fu kx σ x1 x2 x3 = some Rr → Gd b D cI cZ cO σ s.heap H locs → lv_has ls 4 [(0, .ref (b + 132)), (1, .int x1), (2, .int x2), (3, .int x3)] → W p l e rmX12_levelOf s m args below meth c H locs 0 0 (MQ below (QI b D cI cZ cO Rr) args s 0 0 (fun q => b ≤ q)) (F0 m 4 ls []) := by
  intro fu
  induction fu with
  | zero => intro σ x1 x2 x3 H locs ls hs; cases hs
  | succ fu ih =>
    intro σ x1 x2 x3 H locs ls hs G hl
    exact wX12_levelOf_4b C (fun σ x1 x2 x3 H locs ls hs G hl => ih σ x1 x2 x3 H locs ls hs G hl) hxx hs G hl
def fX12_levelOf_28 (σ : Sg) (x1 : Int32) (x2 : Int32) (x3 : Int32) : Option (Int32 × Sg) :=
  (if x1 ≤ x3 then some (x2, σ) else some ((-1), σ))
set_option maxRecDepth 100000 in
set_option maxHeartbeats 4000000 in
theorem wX12_levelOf_28 {p : Program} {l : Launch} {e : Env} {s : State} {m : MethodId} {args : Array Value} {below : List Frame} {meth : Method} {c : Code} {D : va_G} {cI cZ cO : ClassId} {b : Nat} (C : Cx p s m args meth c cX12_levelOf RX12 4 (some .int) D cI cZ cO) {Rr : (Int32 × Sg)} {σ : Sg} {x1 : Int32} {x2 : Int32} {x3 : Int32} {H : Heap} {locs : List Loc} {ls : Array Slot} (hs : fX12_levelOf_28 σ x1 x2 x3 = some Rr) (G : Gd b D cI cZ cO σ s.heap H locs) (hl : lv_has ls 4 [(1, .int x1), (2, .int x2), (3, .int x3)]) : W p l e rmX12_levelOf s m args below meth c H locs 0 0 (MQ below (QI b D cI cZ cO Rr) args s 0 0 (fun q => b ≤ q)) (F0 m 28 ls []) := by
  have hx := C.1
  have hb := C.2.1
  unfold fX12_levelOf_28 at hs
  refine lv_iload_n hx hb dX12_levelOf_28 rfl (lv_at hl 2 rfl) ?_
  refine lv_iload_n hx hb dX12_levelOf_29 rfl (lv_at hl 0 rfl) ?_
  refine lv_icmp_ge (tgt := 37) hx hb dX12_levelOf_30 (by decide) (fun c_6 => ?_) (fun c_6 => ?_)
  · replace hs := ifT c_6 hs
    refine lv_iload_n hx hb dX12_levelOf_37 rfl (lv_at hl 1 rfl) ?_
    exact retI C G hs dX12_levelOf_38
  · replace hs := ifF c_6 hs
    refine lv_iconst (v := (-1)) hx hb dX12_levelOf_33 (by decide) ?_
    refine lv_goto (tgt := 38) hx hb dX12_levelOf_34 (by decide) ?_
    exact retI C G hs dX12_levelOf_38
def fX12_levelOf (σ : Sg) (x1 : Int32) : Option (Int32 × Sg) :=
  fX12_levelOf_4 FU (fun σ_5 x1_5 x2_5 x3_5 => fX12_levelOf_28 σ_5 x1_5 x2_5 x3_5) σ x1 0 0
set_option maxRecDepth 100000 in
set_option maxHeartbeats 4000000 in
theorem ctX12_levelOf (l : Launch) {D : va_G} {cI cZ cO : ClassId} {b : Nat} {σ : Sg} {x1 : Int32} {Rr : (Int32 × Sg)} (hs : fX12_levelOf σ x1 = some Rr) : MI l yX12_levelOf cX12_levelOf 4 (some .int) rmX12_levelOf [.ref (b + 132), .int x1] b D cI cZ cO σ Rr := by
  unfold fX12_levelOf at hs
  refine metI (by decide +kernel) (Nat.le_of_ble_eq_true rfl) (fun p e s m below meth c ls C G hl => ?_)
  have C : Cx p s m _ meth c cX12_levelOf RX12 4 (some .int) D cI cZ cO := C
  have hx := C.1
  have hb := C.2.1
  have hl : lv_has ls 4 [(0, .ref (b + 132)), (1, .int x1)] := hl
  refine lv_iconst (v := 0) hx hb dX12_levelOf_0 (by decide) ?_
  refine lv_istore_n (lv' := [(2, .int 0), (0, .ref (b + 132)), (1, .int x1)]) hx hb dX12_levelOf_1 rfl hl (by decide) rfl (fun ls hl => ?_)
  refine lv_iconst (v := 0) hx hb dX12_levelOf_2 (by decide) ?_
  refine lv_istore_n (lv' := [(3, .int 0), (2, .int 0), (0, .ref (b + 132)), (1, .int x1)]) hx hb dX12_levelOf_3 rfl hl (by decide) rfl (fun ls hl => ?_)
  refine wX12_levelOf_4 C (fun σ_5 x1_5 x2_5 x3_5 H locs ls hs G hl => ?_) FU _ _ _ _ _ _ _ hs G (lv_sub hl [2, 3, 1, 0] rfl)
  exact wX12_levelOf_28 C   hs G (lv_sub hl [0, 1, 2] rfl)
-- X12_shares
def rmX12_shares : Room := { frames := 2, cells := 0, slots := 0, locals := 47 }
def fX12_shares_77 (kh : Sg → Int32 → Int32 → Int32 → Int32 → Int32 → Option (Int32 × Sg)) (kx : Sg → Int32 → Option (Int32 × Sg)) (σ : Sg) (x2 : Int32) (x3 : Int32) (x4 : Int32) (x6 : Int32) (y0 : Int32) : Option (Int32 × Sg) :=
  lt (x4 - y0) (fun x4_11 => lt (x6 + 1) (fun x6_12 => kh σ x2 x3 x4_11 y0 x6_12))
set_option maxRecDepth 100000 in
set_option maxHeartbeats 4000000 in
theorem wX12_shares_77 {p : Program} {l : Launch} {e : Env} {s : State} {m : MethodId} {args : Array Value} {below : List Frame} {meth : Method} {c : Code} {D : va_G} {cI cZ cO : ClassId} {b : Nat} (C : Cx p s m args meth c cX12_shares RX12 7 (some .int) D cI cZ cO) {Rr : (Int32 × Sg)} {kh : Sg → Int32 → Int32 → Int32 → Int32 → Int32 → Option (Int32 × Sg)} {kx : Sg → Int32 → Option (Int32 × Sg)} (hh : ∀ (σ : Sg) (x2 : Int32) (x3 : Int32) (x4 : Int32) (x5 : Int32) (x6 : Int32) (H : Heap) (locs : List Loc) (ls : Array Slot), kh σ x2 x3 x4 x5 x6 = some Rr → Gd b D cI cZ cO σ s.heap H locs → lv_has ls 7 [(0, .ref (b + 132)), (2, .int x2), (3, .int x3), (4, .int x4), (5, .int x5), (6, .int x6)] → W p l e rmX12_shares s m args below meth c H locs 0 0 (MQ below (QI b D cI cZ cO Rr) args s 0 0 (fun q => b ≤ q)) (F0 m 48 ls [])) (hxx : ∀ (σ : Sg) (x5 : Int32) (H : Heap) (locs : List Loc) (ls : Array Slot), kx σ x5 = some Rr → Gd b D cI cZ cO σ s.heap H locs → lv_has ls 7 [(5, .int x5)] → W p l e rmX12_shares s m args below meth c H locs 0 0 (MQ below (QI b D cI cZ cO Rr) args s 0 0 (fun q => b ≤ q)) (F0 m 92 ls [])) {σ : Sg} {x2 : Int32} {x3 : Int32} {x4 : Int32} {x6 : Int32} {y0 : Int32} {H : Heap} {locs : List Loc} {ls : Array Slot} (hs : fX12_shares_77 kh kx σ x2 x3 x4 x6 y0 = some Rr) (G : Gd b D cI cZ cO σ s.heap H locs) (hl : lv_has ls 7 [(0, .ref (b + 132)), (2, .int x2), (3, .int x3), (4, .int x4), (6, .int x6)]) : W p l e rmX12_shares s m args below meth c H locs 0 0 (MQ below (QI b D cI cZ cO Rr) args s 0 0 (fun q => b ≤ q)) (F0 m 77 ls [.int y0]) := by
  have hx := C.1
  have hb := C.2.1
  unfold fX12_shares_77 at hs
  refine lv_istore (lv' := [(5, .int y0), (0, .ref (b + 132)), (2, .int x2), (3, .int x3), (4, .int x4), (6, .int x6)]) hx hb dX12_shares_77 hl (by decide) rfl (fun ls hl => ?_)
  refine lv_iload hx hb dX12_shares_79 (lv_at hl 4 rfl) ?_
  refine lv_iload hx hb dX12_shares_81 (lv_at hl 0 rfl) ?_
  refine lv_isub hx hb dX12_shares_83 ?_
  refine topI hs (fun x4_11 hs => ?_)
  refine lv_istore (lv' := [(4, .int x4_11), (5, .int y0), (0, .ref (b + 132)), (2, .int x2), (3, .int x3), (6, .int x6)]) hx hb dX12_shares_84 hl (by decide) rfl (fun ls hl => ?_)
  obtain ⟨x6_12, e_12, hs⟩ := ltE hs
  refine lv_iinc (v := x6_12) (lv' := [(6, .int x6_12), (4, .int x4_11), (5, .int y0), (0, .ref (b + 132)), (2, .int x2), (3, .int x3)]) hx hb dX12_shares_86 hl (k := 5) rfl (by rw [e_12]; rfl) (by decide) rfl (fun ls hl => ?_)
  refine lv_goto (tgt := 48) hx hb dX12_shares_89 (by decide) ?_
  exact hh _ _ _ _ _ _ _ _ _ hs G (lv_sub hl [3, 4, 5, 1, 2, 0] rfl)
def fX12_shares_48b (kh : Sg → Int32 → Int32 → Int32 → Int32 → Int32 → Option (Int32 × Sg)) (kx : Sg → Int32 → Option (Int32 × Sg)) (σ : Sg) (x2 : Int32) (x3 : Int32) (x4 : Int32) (x5 : Int32) (x6 : Int32) : Option (Int32 × Sg) :=
  (if x2 < x6 then kx σ x5 else bi (fX12_sumAt σ x3 x6) (fun r_8 σ_8 => lt (x4 - r_8) (fun x5_9 => (if 0 ≤ x5_9 then fX12_shares_77 kh kx σ_8 x2 x3 x4 x6 x5_9 else fX12_shares_77 kh kx σ_8 x2 x3 x4 x6 0))))
set_option maxRecDepth 100000 in
set_option maxHeartbeats 4000000 in
theorem wX12_shares_48b {p : Program} {l : Launch} {e : Env} {s : State} {m : MethodId} {args : Array Value} {below : List Frame} {meth : Method} {c : Code} {D : va_G} {cI cZ cO : ClassId} {b : Nat} (C : Cx p s m args meth c cX12_shares RX12 7 (some .int) D cI cZ cO) {Rr : (Int32 × Sg)} {kh : Sg → Int32 → Int32 → Int32 → Int32 → Int32 → Option (Int32 × Sg)} {kx : Sg → Int32 → Option (Int32 × Sg)} (hh : ∀ (σ : Sg) (x2 : Int32) (x3 : Int32) (x4 : Int32) (x5 : Int32) (x6 : Int32) (H : Heap) (locs : List Loc) (ls : Array Slot), kh σ x2 x3 x4 x5 x6 = some Rr → Gd b D cI cZ cO σ s.heap H locs → lv_has ls 7 [(0, .ref (b + 132)), (2, .int x2), (3, .int x3), (4, .int x4), (5, .int x5), (6, .int x6)] → W p l e rmX12_shares s m args below meth c H locs 0 0 (MQ below (QI b D cI cZ cO Rr) args s 0 0 (fun q => b ≤ q)) (F0 m 48 ls [])) (hxx : ∀ (σ : Sg) (x5 : Int32) (H : Heap) (locs : List Loc) (ls : Array Slot), kx σ x5 = some Rr → Gd b D cI cZ cO σ s.heap H locs → lv_has ls 7 [(5, .int x5)] → W p l e rmX12_shares s m args below meth c H locs 0 0 (MQ below (QI b D cI cZ cO Rr) args s 0 0 (fun q => b ≤ q)) (F0 m 92 ls [])) {σ : Sg} {x2 : Int32} {x3 : Int32} {x4 : Int32} {x5 : Int32} {x6 : Int32} {H : Heap} {locs : List Loc} {ls : Array Slot} (hs : fX12_shares_48b kh kx σ x2 x3 x4 x5 x6 = some Rr) (G : Gd b D cI cZ cO σ s.heap H locs) (hl : lv_has ls 7 [(0, .ref (b + 132)), (2, .int x2), (3, .int x3), (4, .int x4), (5, .int x5), (6, .int x6)]) : W p l e rmX12_shares s m args below meth c H locs 0 0 (MQ below (QI b D cI cZ cO Rr) args s 0 0 (fun q => b ≤ q)) (F0 m 48 ls []) := by
  have hx := C.1
  have hb := C.2.1
  unfold fX12_shares_48b at hs
  refine lv_iload hx hb dX12_shares_48 (lv_at hl 5 rfl) ?_
  refine lv_iload_n hx hb dX12_shares_50 rfl (lv_at hl 1 rfl) ?_
  refine lv_icmp_gt (tgt := 92) hx hb dX12_shares_51 (by decide) (fun c_7 => ?_) (fun c_7 => ?_)
  · replace hs := ifT c_7 hs
    exact hxx _ _ _ _ _ hs G (lv_sub hl [4] rfl)
  · replace hs := ifF c_7 hs
    refine lv_iload hx hb dX12_shares_54 (lv_at hl 3 rfl) ?_
    refine lv_aload_n hx hb dX12_shares_56 rfl (lv_at hl 0 rfl) ?_
    refine lv_iload_n hx hb dX12_shares_57 rfl (lv_at hl 2 rfl) ?_
    refine lv_iload hx hb dX12_shares_58 (lv_at hl 5 rfl) ?_
    obtain ⟨r_8, σ_8, hc, hs⟩ := biE hs
    refine callVI (ar := 2) (As := [.int x3, .int x6]) (rest := [.int x4]) C G hl.1 (ctX12_sumAt _  hc) ⟨wd_1242, wd_1244, wd_67, wd_81, wd_1245⟩ (by decide +kernel) rfl ⟨rfl, rfl⟩ ⟨Nat.le_of_ble_eq_true rfl, Nat.le_of_ble_eq_true rfl⟩ (kd_lt kd_132 (by decide)) (ent_12 b cI cZ cO _ kd_132) rfl (Nat.le_of_ble_eq_true rfl) ⟨Nat.le_of_ble_eq_true rfl, Nat.le_of_ble_eq_true rfl⟩ dX12_shares_60 rfl (fun H locs G => ?_)
    refine lv_isub hx hb dX12_shares_63 ?_
    refine topI hs (fun x5_9 hs => ?_)
    refine lv_istore (lv' := [(5, .int x5_9), (0, .ref (b + 132)), (2, .int x2), (3, .int x3), (4, .int x4), (6, .int x6)]) hx hb dX12_shares_64 hl (by decide) rfl (fun ls hl => ?_)
    refine lv_iload hx hb dX12_shares_66 (lv_at hl 0 rfl) ?_
    refine lv_if_ge (tgt := 75) hx hb dX12_shares_68 (by decide) (fun c_10 => ?_) (fun c_10 => ?_)
    · replace hs := ifT c_10 hs
      refine lv_iload hx hb dX12_shares_75 (lv_at hl 0 rfl) ?_
      exact wX12_shares_77 C  hh hxx hs G (lv_sub hl [1, 2, 3, 4, 5] rfl)
    · replace hs := ifF c_10 hs
      refine lv_iconst (v := 0) hx hb dX12_shares_71 (by decide) ?_
      refine lv_goto (tgt := 77) hx hb dX12_shares_72 (by decide) ?_
      exact wX12_shares_77 C  hh hxx hs G (lv_sub hl [1, 2, 3, 4, 5] rfl)
def fX12_shares_48 : Nat → (Sg → Int32 → Option (Int32 × Sg)) → Sg → Int32 → Int32 → Int32 → Int32 → Int32 → Option (Int32 × Sg)
  | 0, _, _, _, _, _, _, _ => none
  | fu + 1, kx, σ, x2, x3, x4, x5, x6 => fX12_shares_48b (fX12_shares_48 fu kx) kx σ x2 x3 x4 x5 x6
theorem fX12_shares_48_s (fu : Nat) (kx : Sg → Int32 → Option (Int32 × Sg)) (σ : Sg) (x2 : Int32) (x3 : Int32) (x4 : Int32) (x5 : Int32) (x6 : Int32) : fX12_shares_48 (fu + 1) kx σ x2 x3 x4 x5 x6 = fX12_shares_48b (fX12_shares_48 fu kx) kx σ x2 x3 x4 x5 x6 := by rw [fX12_shares_48]
theorem wX12_shares_48 {p : Program} {l : Launch} {e : Env} {s : State} {m : MethodId} {args : Array Value} {below : List Frame} {meth : Method} {c : Code} {D : va_G} {cI cZ cO : ClassId} {b : Nat} (C : Cx p s m args meth c cX12_shares RX12 7 (some .int) D cI cZ cO) {Rr : (Int32 × Sg)} {kx : Sg → Int32 → Option (Int32 × Sg)} (hxx : ∀ (σ : Sg) (x5 : Int32) (H : Heap) (locs : List Loc) (ls : Array Slot), kx σ x5 = some Rr → Gd b D cI cZ cO σ s.heap H locs → lv_has ls 7 [(5, .int x5)] → W p l e rmX12_shares s m args below meth c H locs 0 0 (MQ below (QI b D cI cZ cO Rr) args s 0 0 (fun q => b ≤ q)) (F0 m 92 ls [])) : ∀ (fu : Nat) (σ : Sg) (x2 : Int32) (x3 : Int32) (x4 : Int32) (x5 : Int32) (x6 : Int32) (H : Heap) (locs : List Loc) (ls : Array Slot), fX12_shares_48 fu kx σ x2 x3 x4 x5 x6 = some Rr → Gd b D cI cZ cO σ s.heap H locs → lv_has ls 7 [(0, .ref (b + 132)), (2, .int x2), (3, .int x3), (4, .int x4), (5, .int x5), (6, .int x6)] → W p l e rmX12_shares s m args below meth c H locs 0 0 (MQ below (QI b D cI cZ cO Rr) args s 0 0 (fun q => b ≤ q)) (F0 m 48 ls []) := by
  intro fu
  induction fu with
  | zero => intro σ x2 x3 x4 x5 x6 H locs ls hs; cases hs
  | succ fu ih =>
    intro σ x2 x3 x4 x5 x6 H locs ls hs G hl
    exact wX12_shares_48b C (fun σ x2 x3 x4 x5 x6 H locs ls hs G hl => ih σ x2 x3 x4 x5 x6 H locs ls hs G hl) hxx hs G hl
def fX12_shares (σ : Sg) (x1 : Int32) (x2 : Int32) : Option (Int32 × Sg) :=
  bi (fX12_isVillage σ x2) (fun r_1 σ_1 => (if r_1 = 0 then some ((-1000000001), σ_1) else bi (fX12_in σ_1 x1.toInt64 0 999) (fun r_3 σ_3 => (if r_3 = 0 then some ((-1000000002), σ_3) else bi (fX12_levelOf σ_3 x1) (fun r_5 σ_5 => (if r_5 = (-1) then some ((-1), σ_5) else fX12_shares_48 FU (fun σ_13 x5_13 => some (x5_13, σ_13)) σ_5 x2 r_5 x1 0 0))))))
set_option maxRecDepth 100000 in
set_option maxHeartbeats 4000000 in
theorem ctX12_shares (l : Launch) {D : va_G} {cI cZ cO : ClassId} {b : Nat} {σ : Sg} {x1 : Int32} {x2 : Int32} {Rr : (Int32 × Sg)} (hs : fX12_shares σ x1 x2 = some Rr) : MI l yX12_shares cX12_shares 7 (some .int) rmX12_shares [.ref (b + 132), .int x1, .int x2] b D cI cZ cO σ Rr := by
  unfold fX12_shares at hs
  refine metI (by decide +kernel) (Nat.le_of_ble_eq_true rfl) (fun p e s m below meth c ls C G hl => ?_)
  have C : Cx p s m _ meth c cX12_shares RX12 7 (some .int) D cI cZ cO := C
  have hx := C.1
  have hb := C.2.1
  have hl : lv_has ls 7 [(0, .ref (b + 132)), (1, .int x1), (2, .int x2)] := hl
  refine lv_aload_n hx hb dX12_shares_0 rfl (lv_at hl 0 rfl) ?_
  refine lv_iload_n hx hb dX12_shares_1 rfl (lv_at hl 2 rfl) ?_
  obtain ⟨r_1, σ_1, hc, hs⟩ := biE hs
  refine callVI (ar := 1) (As := [.int x2]) (rest := []) C G hl.1 (ctX12_isVillage _  hc) ⟨wd_1136, wd_1138, wd_54, wd_81, wd_1139⟩ (by decide +kernel) rfl ⟨rfl, rfl⟩ ⟨Nat.le_of_ble_eq_true rfl, Nat.le_of_ble_eq_true rfl⟩ (kd_lt kd_132 (by decide)) (ent_12 b cI cZ cO _ kd_132) rfl (Nat.le_of_ble_eq_true rfl) ⟨Nat.le_of_ble_eq_true rfl, Nat.le_of_ble_eq_true rfl⟩ dX12_shares_2 rfl (fun H locs G => ?_)
  refine lv_if_ne (tgt := 11) hx hb dX12_shares_5 (by decide) (fun c_2 => ?_) (fun c_2 => ?_)
  · replace hs := ifF c_2 hs
    refine lv_iload_n hx hb dX12_shares_11 rfl (lv_at hl 1 rfl) ?_
    refine lv_i2l hx hb dX12_shares_12 rfl ?_
    refine lv_lconst (v := 0) hx hb dX12_shares_13 (by decide) ?_
    refine m_ldc2 C wd_1237 dX12_shares_14 ?_
    obtain ⟨r_3, σ_3, hc, hs⟩ := biE hs
    refine callSI (ar := 3) (As := [.long x1.toInt64, .long 0, .long 999]) (rest := []) C G hl.1 (ctX12_in _  hc) ⟨wd_988, wd_989, wd_81, wd_990⟩ (by decide +kernel) rfl ⟨rfl, rfl⟩ ⟨Nat.le_of_ble_eq_true rfl, Nat.le_of_ble_eq_true rfl⟩ (Nat.le_of_ble_eq_true rfl) ⟨Nat.le_of_ble_eq_true rfl, Nat.le_of_ble_eq_true rfl⟩ dX12_shares_17 rfl (fun H locs G => ?_)
    refine lv_if_ne (tgt := 26) hx hb dX12_shares_20 (by decide) (fun c_4 => ?_) (fun c_4 => ?_)
    · replace hs := ifF c_4 hs
      refine lv_aload_n hx hb dX12_shares_26 rfl (lv_at hl 0 rfl) ?_
      refine lv_iload_n hx hb dX12_shares_27 rfl (lv_at hl 1 rfl) ?_
      obtain ⟨r_5, σ_5, hc, hs⟩ := biE hs
      refine callVI (ar := 1) (As := [.int x1]) (rest := []) C G hl.1 (ctX12_levelOf _  hc) ⟨wd_1238, wd_1240, wd_66, wd_81, wd_1241⟩ (by decide +kernel) rfl ⟨rfl, rfl⟩ ⟨Nat.le_of_ble_eq_true rfl, Nat.le_of_ble_eq_true rfl⟩ (kd_lt kd_132 (by decide)) (ent_12 b cI cZ cO _ kd_132) rfl (Nat.le_of_ble_eq_true rfl) ⟨Nat.le_of_ble_eq_true rfl, Nat.le_of_ble_eq_true rfl⟩ dX12_shares_28 rfl (fun H locs G => ?_)
      refine lv_istore_n (lv' := [(3, .int r_5), (0, .ref (b + 132)), (1, .int x1), (2, .int x2)]) hx hb dX12_shares_31 rfl hl (by decide) rfl (fun ls hl => ?_)
      refine lv_iload_n hx hb dX12_shares_32 rfl (lv_at hl 0 rfl) ?_
      refine lv_iconst (v := (-1)) hx hb dX12_shares_33 (by decide) ?_
      refine lv_icmp_ne (tgt := 39) hx hb dX12_shares_34 (by decide) (fun c_6 => ?_) (fun c_6 => ?_)
      · replace hs := ifF c_6 hs
        refine lv_iload_n hx hb dX12_shares_39 rfl (lv_at hl 2 rfl) ?_
        refine lv_istore (lv' := [(4, .int x1), (3, .int r_5), (0, .ref (b + 132)), (1, .int x1), (2, .int x2)]) hx hb dX12_shares_40 hl (by decide) rfl (fun ls hl => ?_)
        refine lv_iconst (v := 0) hx hb dX12_shares_42 (by decide) ?_
        refine lv_istore (lv' := [(5, .int 0), (4, .int x1), (3, .int r_5), (0, .ref (b + 132)), (1, .int x1), (2, .int x2)]) hx hb dX12_shares_43 hl (by decide) rfl (fun ls hl => ?_)
        refine lv_iconst (v := 0) hx hb dX12_shares_45 (by decide) ?_
        refine lv_istore (lv' := [(6, .int 0), (5, .int 0), (4, .int x1), (3, .int r_5), (0, .ref (b + 132)), (1, .int x1), (2, .int x2)]) hx hb dX12_shares_46 hl (by decide) rfl (fun ls hl => ?_)
        refine wX12_shares_48 C (fun σ_13 x5_13 H locs ls hs G hl => ?_) FU _ _ _ _ _ _ _ _ _ hs G (lv_sub hl [4, 6, 3, 2, 1, 0] rfl)
        refine lv_iload hx hb dX12_shares_92 (lv_at hl 0 rfl) ?_
        exact retI C G hs dX12_shares_94
      · replace hs := ifT c_6 hs
        refine lv_iconst (v := (-1)) hx hb dX12_shares_37 (by decide) ?_
        exact retI C G hs dX12_shares_38
    · replace hs := ifT c_4 hs
      refine m_ldc C wd_991 dX12_shares_23 ?_
      exact retI C G hs dX12_shares_25
  · replace hs := ifT c_2 hs
    refine m_ldc C wd_1111 dX12_shares_8 ?_
    exact retI C G hs dX12_shares_10
-- X12_dry
def rmX12_dry : Room := { frames := 1, cells := 0, slots := 0, locals := 25 }
def fX12_dry_24 (σ : Sg) : Option (Int32 × Sg) :=
  some ((-1000000002), σ)
set_option maxRecDepth 100000 in
set_option maxHeartbeats 4000000 in
theorem wX12_dry_24 {p : Program} {l : Launch} {e : Env} {s : State} {m : MethodId} {args : Array Value} {below : List Frame} {meth : Method} {c : Code} {D : va_G} {cI cZ cO : ClassId} {b : Nat} (C : Cx p s m args meth c cX12_dry RX12 6 (some .int) D cI cZ cO) {Rr : (Int32 × Sg)} {σ : Sg} {H : Heap} {locs : List Loc} {ls : Array Slot} (hs : fX12_dry_24 σ = some Rr) (G : Gd b D cI cZ cO σ s.heap H locs) (hl : lv_has ls 6 []) : W p l e rmX12_dry s m args below meth c H locs 0 0 (MQ below (QI b D cI cZ cO Rr) args s 0 0 (fun q => b ≤ q)) (F0 m 24 ls []) := by
  have hx := C.1
  have hb := C.2.1
  unfold fX12_dry_24 at hs
  refine m_ldc C wd_991 dX12_dry_24 ?_
  exact retI C G hs dX12_dry_26
def fX12_dry_34b (kh : Sg → Int32 → Int32 → Int64 → Int32 → Option (Int32 × Sg)) (kx : Sg → Int64 → Option (Int32 × Sg)) (σ : Sg) (x1 : Int32) (x2 : Int32) (x3 : Int64) (x5 : Int32) : Option (Int32 × Sg) :=
  (if x1 ≤ x5 then kx σ x3 else lt ((x3 * x2.toInt64) / 100) (fun x3_6 => lt (x5 + 1) (fun x5_7 => kh σ x1 x2 x3_6 x5_7)))
set_option maxRecDepth 100000 in
set_option maxHeartbeats 4000000 in
theorem wX12_dry_34b {p : Program} {l : Launch} {e : Env} {s : State} {m : MethodId} {args : Array Value} {below : List Frame} {meth : Method} {c : Code} {D : va_G} {cI cZ cO : ClassId} {b : Nat} (C : Cx p s m args meth c cX12_dry RX12 6 (some .int) D cI cZ cO) {Rr : (Int32 × Sg)} {kh : Sg → Int32 → Int32 → Int64 → Int32 → Option (Int32 × Sg)} {kx : Sg → Int64 → Option (Int32 × Sg)} (hh : ∀ (σ : Sg) (x1 : Int32) (x2 : Int32) (x3 : Int64) (x5 : Int32) (H : Heap) (locs : List Loc) (ls : Array Slot), kh σ x1 x2 x3 x5 = some Rr → Gd b D cI cZ cO σ s.heap H locs → lv_has ls 6 [(1, .int x1), (2, .int x2), (3, .long x3), (5, .int x5)] → W p l e rmX12_dry s m args below meth c H locs 0 0 (MQ below (QI b D cI cZ cO Rr) args s 0 0 (fun q => b ≤ q)) (F0 m 34 ls [])) (hxx : ∀ (σ : Sg) (x3 : Int64) (H : Heap) (locs : List Loc) (ls : Array Slot), kx σ x3 = some Rr → Gd b D cI cZ cO σ s.heap H locs → lv_has ls 6 [(3, .long x3)] → W p l e rmX12_dry s m args below meth c H locs 0 0 (MQ below (QI b D cI cZ cO Rr) args s 0 0 (fun q => b ≤ q)) (F0 m 55 ls [])) {σ : Sg} {x1 : Int32} {x2 : Int32} {x3 : Int64} {x5 : Int32} {H : Heap} {locs : List Loc} {ls : Array Slot} (hs : fX12_dry_34b kh kx σ x1 x2 x3 x5 = some Rr) (G : Gd b D cI cZ cO σ s.heap H locs) (hl : lv_has ls 6 [(1, .int x1), (2, .int x2), (3, .long x3), (5, .int x5)]) : W p l e rmX12_dry s m args below meth c H locs 0 0 (MQ below (QI b D cI cZ cO Rr) args s 0 0 (fun q => b ≤ q)) (F0 m 34 ls []) := by
  have hx := C.1
  have hb := C.2.1
  unfold fX12_dry_34b at hs
  refine lv_iload hx hb dX12_dry_34 (lv_at hl 3 rfl) ?_
  refine lv_iload_n hx hb dX12_dry_36 rfl (lv_at hl 0 rfl) ?_
  refine lv_icmp_ge (tgt := 55) hx hb dX12_dry_37 (by decide) (fun c_5 => ?_) (fun c_5 => ?_)
  · replace hs := ifT c_5 hs
    exact hxx _ _ _ _ _ hs G (lv_sub hl [2] rfl)
  · replace hs := ifF c_5 hs
    refine lv_lload_n hx hb dX12_dry_40 rfl (lv_at hl 2 rfl) ?_
    refine lv_iload_n hx hb dX12_dry_41 rfl (lv_at hl 1 rfl) ?_
    refine lv_i2l hx hb dX12_dry_42 rfl ?_
    refine lv_lmul hx hb dX12_dry_43 ?_
    refine m_ldc2 C wd_1250 dX12_dry_44 ?_
    refine lv_ldiv hx hb dX12_dry_47 (by decide) ?_
    refine topL hs (fun x3_6 hs => ?_)
    refine lv_lstore_n (lv' := [(3, .long x3_6), (1, .int x1), (2, .int x2), (5, .int x5)]) hx hb dX12_dry_48 rfl hl (by decide) rfl (fun ls hl => ?_)
    obtain ⟨x5_7, e_7, hs⟩ := ltE hs
    refine lv_iinc (v := x5_7) (lv' := [(5, .int x5_7), (3, .long x3_6), (1, .int x1), (2, .int x2)]) hx hb dX12_dry_49 hl (k := 3) rfl (by rw [e_7]; rfl) (by decide) rfl (fun ls hl => ?_)
    refine lv_goto (tgt := 34) hx hb dX12_dry_52 (by decide) ?_
    exact hh _ _ _ _ _ _ _ _ hs G (lv_sub hl [2, 3, 1, 0] rfl)
def fX12_dry_34 : Nat → (Sg → Int64 → Option (Int32 × Sg)) → Sg → Int32 → Int32 → Int64 → Int32 → Option (Int32 × Sg)
  | 0, _, _, _, _, _, _ => none
  | fu + 1, kx, σ, x1, x2, x3, x5 => fX12_dry_34b (fX12_dry_34 fu kx) kx σ x1 x2 x3 x5
theorem fX12_dry_34_s (fu : Nat) (kx : Sg → Int64 → Option (Int32 × Sg)) (σ : Sg) (x1 : Int32) (x2 : Int32) (x3 : Int64) (x5 : Int32) : fX12_dry_34 (fu + 1) kx σ x1 x2 x3 x5 = fX12_dry_34b (fX12_dry_34 fu kx) kx σ x1 x2 x3 x5 := by rw [fX12_dry_34]
theorem wX12_dry_34 {p : Program} {l : Launch} {e : Env} {s : State} {m : MethodId} {args : Array Value} {below : List Frame} {meth : Method} {c : Code} {D : va_G} {cI cZ cO : ClassId} {b : Nat} (C : Cx p s m args meth c cX12_dry RX12 6 (some .int) D cI cZ cO) {Rr : (Int32 × Sg)} {kx : Sg → Int64 → Option (Int32 × Sg)} (hxx : ∀ (σ : Sg) (x3 : Int64) (H : Heap) (locs : List Loc) (ls : Array Slot), kx σ x3 = some Rr → Gd b D cI cZ cO σ s.heap H locs → lv_has ls 6 [(3, .long x3)] → W p l e rmX12_dry s m args below meth c H locs 0 0 (MQ below (QI b D cI cZ cO Rr) args s 0 0 (fun q => b ≤ q)) (F0 m 55 ls [])) : ∀ (fu : Nat) (σ : Sg) (x1 : Int32) (x2 : Int32) (x3 : Int64) (x5 : Int32) (H : Heap) (locs : List Loc) (ls : Array Slot), fX12_dry_34 fu kx σ x1 x2 x3 x5 = some Rr → Gd b D cI cZ cO σ s.heap H locs → lv_has ls 6 [(1, .int x1), (2, .int x2), (3, .long x3), (5, .int x5)] → W p l e rmX12_dry s m args below meth c H locs 0 0 (MQ below (QI b D cI cZ cO Rr) args s 0 0 (fun q => b ≤ q)) (F0 m 34 ls []) := by
  intro fu
  induction fu with
  | zero => intro σ x1 x2 x3 x5 H locs ls hs; cases hs
  | succ fu ih =>
    intro σ x1 x2 x3 x5 H locs ls hs G hl
    exact wX12_dry_34b C (fun σ x1 x2 x3 x5 H locs ls hs G hl => ih σ x1 x2 x3 x5 H locs ls hs G hl) hxx hs G hl
def fX12_dry (σ : Sg) (x1 : Int32) (x2 : Int32) : Option (Int32 × Sg) :=
  bi (fX12_in σ x1.toInt64 0 60) (fun r_1 σ_1 => (if r_1 = 0 then fX12_dry_24 σ_1 else bi (fX12_in σ_1 x2.toInt64 0 100) (fun r_3 σ_3 => (if r_3 = 0 then fX12_dry_24 σ_3 else fX12_dry_34 FU (fun σ_8 x3_8 => some (x3_8.toInt32, σ_8)) σ_3 x1 x2 1000000000 0))))
set_option maxRecDepth 100000 in
set_option maxHeartbeats 4000000 in
theorem ctX12_dry (l : Launch) {D : va_G} {cI cZ cO : ClassId} {b : Nat} {σ : Sg} {x1 : Int32} {x2 : Int32} {Rr : (Int32 × Sg)} (hs : fX12_dry σ x1 x2 = some Rr) : MI l yX12_dry cX12_dry 6 (some .int) rmX12_dry [.ref (b + 132), .int x1, .int x2] b D cI cZ cO σ Rr := by
  unfold fX12_dry at hs
  refine metI (by decide +kernel) (Nat.le_of_ble_eq_true rfl) (fun p e s m below meth c ls C G hl => ?_)
  have C : Cx p s m _ meth c cX12_dry RX12 6 (some .int) D cI cZ cO := C
  have hx := C.1
  have hb := C.2.1
  have hl : lv_has ls 6 [(0, .ref (b + 132)), (1, .int x1), (2, .int x2)] := hl
  refine lv_iload_n hx hb dX12_dry_0 rfl (lv_at hl 1 rfl) ?_
  refine lv_i2l hx hb dX12_dry_1 rfl ?_
  refine lv_lconst (v := 0) hx hb dX12_dry_2 (by decide) ?_
  refine m_ldc2 C wd_1178 dX12_dry_3 ?_
  obtain ⟨r_1, σ_1, hc, hs⟩ := biE hs
  refine callSI (ar := 3) (As := [.long x1.toInt64, .long 0, .long 60]) (rest := []) C G hl.1 (ctX12_in _  hc) ⟨wd_988, wd_989, wd_81, wd_990⟩ (by decide +kernel) rfl ⟨rfl, rfl⟩ ⟨Nat.le_of_ble_eq_true rfl, Nat.le_of_ble_eq_true rfl⟩ (Nat.le_of_ble_eq_true rfl) ⟨Nat.le_of_ble_eq_true rfl, Nat.le_of_ble_eq_true rfl⟩ dX12_dry_6 rfl (fun H locs G => ?_)
  refine lv_if_eq (tgt := 24) hx hb dX12_dry_9 (by decide) (fun c_2 => ?_) (fun c_2 => ?_)
  · replace hs := ifT c_2 hs
    exact wX12_dry_24 C   hs G (lv_sub hl [] rfl)
  · replace hs := ifF c_2 hs
    refine lv_iload_n hx hb dX12_dry_12 rfl (lv_at hl 2 rfl) ?_
    refine lv_i2l hx hb dX12_dry_13 rfl ?_
    refine lv_lconst (v := 0) hx hb dX12_dry_14 (by decide) ?_
    refine m_ldc2 C wd_1250 dX12_dry_15 ?_
    obtain ⟨r_3, σ_3, hc, hs⟩ := biE hs
    refine callSI (ar := 3) (As := [.long x2.toInt64, .long 0, .long 100]) (rest := []) C G hl.1 (ctX12_in _  hc) ⟨wd_988, wd_989, wd_81, wd_990⟩ (by decide +kernel) rfl ⟨rfl, rfl⟩ ⟨Nat.le_of_ble_eq_true rfl, Nat.le_of_ble_eq_true rfl⟩ (Nat.le_of_ble_eq_true rfl) ⟨Nat.le_of_ble_eq_true rfl, Nat.le_of_ble_eq_true rfl⟩ dX12_dry_18 rfl (fun H locs G => ?_)
    refine lv_if_ne (tgt := 27) hx hb dX12_dry_21 (by decide) (fun c_4 => ?_) (fun c_4 => ?_)
    · replace hs := ifF c_4 hs
      refine m_ldc2 C wd_1251 dX12_dry_27 ?_
      refine lv_lstore_n (lv' := [(3, .long 1000000000), (0, .ref (b + 132)), (1, .int x1), (2, .int x2)]) hx hb dX12_dry_30 rfl hl (by decide) rfl (fun ls hl => ?_)
      refine lv_iconst (v := 0) hx hb dX12_dry_31 (by decide) ?_
      refine lv_istore (lv' := [(5, .int 0), (3, .long 1000000000), (0, .ref (b + 132)), (1, .int x1), (2, .int x2)]) hx hb dX12_dry_32 hl (by decide) rfl (fun ls hl => ?_)
      refine wX12_dry_34 C (fun σ_8 x3_8 H locs ls hs G hl => ?_) FU _ _ _ _ _ _ _ _ hs G (lv_sub hl [3, 4, 1, 0] rfl)
      refine lv_lload_n hx hb dX12_dry_55 rfl (lv_at hl 0 rfl) ?_
      refine lv_l2i hx hb dX12_dry_56 rfl ?_
      exact retI C G hs dX12_dry_57
    · replace hs := ifT c_4 hs
      exact wX12_dry_24 C   hs G (lv_sub hl [] rfl)
-- X12_returned
def rmX12_returned : Room := { frames := 1, cells := 0, slots := 0, locals := 25 }
def fX12_returned_49b (kh : Sg → Int32 → Option (Int32 × Sg)) (kx : Sg → Option (Int32 × Sg)) (σ : Sg) (x2 : Int32) : Option (Int32 × Sg) :=
  (if 4 ≤ x2 then kx σ else (if inb (26 + x2) 60 then (if inb ((4 * (σ 132 28)) + x2) 24 then lt (st σ 146 ((4 * (σ 132 28)) + x2).toNatClampNeg (σ 136 (26 + x2).toNatClampNeg)) (fun σ_9 => lt (x2 + 1) (fun x2_10 => kh σ_9 x2_10)) else none) else none))
set_option maxRecDepth 100000 in
set_option maxHeartbeats 4000000 in
theorem wX12_returned_49b {p : Program} {l : Launch} {e : Env} {s : State} {m : MethodId} {args : Array Value} {below : List Frame} {meth : Method} {c : Code} {D : va_G} {cI cZ cO : ClassId} {b : Nat} (C : Cx p s m args meth c cX12_returned RX12 3 (some .int) D cI cZ cO) {Rr : (Int32 × Sg)} {kh : Sg → Int32 → Option (Int32 × Sg)} {kx : Sg → Option (Int32 × Sg)} (hh : ∀ (σ : Sg) (x2 : Int32) (H : Heap) (locs : List Loc) (ls : Array Slot), kh σ x2 = some Rr → Gd b D cI cZ cO σ s.heap H locs → lv_has ls 3 [(0, .ref (b + 132)), (2, .int x2)] → W p l e rmX12_returned s m args below meth c H locs 0 0 (MQ below (QI b D cI cZ cO Rr) args s 0 0 (fun q => b ≤ q)) (F0 m 49 ls [])) (hxx : ∀ (σ : Sg) (H : Heap) (locs : List Loc) (ls : Array Slot), kx σ = some Rr → Gd b D cI cZ cO σ s.heap H locs → lv_has ls 3 [(0, .ref (b + 132))] → W p l e rmX12_returned s m args below meth c H locs 0 0 (MQ below (QI b D cI cZ cO Rr) args s 0 0 (fun q => b ≤ q)) (F0 m 82 ls [])) {σ : Sg} {x2 : Int32} {H : Heap} {locs : List Loc} {ls : Array Slot} (hs : fX12_returned_49b kh kx σ x2 = some Rr) (G : Gd b D cI cZ cO σ s.heap H locs) (hl : lv_has ls 3 [(0, .ref (b + 132)), (2, .int x2)]) : W p l e rmX12_returned s m args below meth c H locs 0 0 (MQ below (QI b D cI cZ cO Rr) args s 0 0 (fun q => b ≤ q)) (F0 m 49 ls []) := by
  have hx := C.1
  have hb := C.2.1
  unfold fX12_returned_49b at hs
  refine lv_iload_n hx hb dX12_returned_49 rfl (lv_at hl 1 rfl) ?_
  refine lv_iconst (v := 4) hx hb dX12_returned_50 (by decide) ?_
  refine lv_icmp_ge (tgt := 82) hx hb dX12_returned_51 (by decide) (fun c_7 => ?_) (fun c_7 => ?_)
  · replace hs := ifT c_7 hs
    exact hxx _ _ _ _ hs G (lv_sub hl [0] rfl)
  · replace hs := ifF c_7 hs
    refine lv_aload_n hx hb dX12_returned_54 rfl (lv_at hl 0 rfl) ?_
    refine gf_X12_53 C G kd_132 (n' := 146) rfl dX12_returned_55 ?_
    refine lv_iconst (v := 4) hx hb dX12_returned_58 (by decide) ?_
    refine lv_aload_n hx hb dX12_returned_59 rfl (lv_at hl 0 rfl) ?_
    refine gf_X12_144 C G kd_132 dX12_returned_60 ?_
    refine lv_imul hx hb dX12_returned_63 ?_
    refine lv_iload_n hx hb dX12_returned_64 rfl (lv_at hl 1 rfl) ?_
    refine lv_iadd hx hb dX12_returned_65 ?_
    refine lv_aload_n hx hb dX12_returned_66 rfl (lv_at hl 0 rfl) ?_
    refine gf_X12_19 C G kd_132 (n' := 136) rfl dX12_returned_67 ?_
    refine lv_bipush (v := 26) hx hb dX12_returned_70 (by decide) ?_
    refine lv_iload_n hx hb dX12_returned_72 rfl (lv_at hl 1 rfl) ?_
    refine lv_iadd hx hb dX12_returned_73 ?_
    obtain ⟨g_8, hs⟩ := gdE hs
    refine m_iald C G kd_136 ln_136 g_8 dX12_returned_74 ?_
    obtain ⟨g_9, hs⟩ := gdE hs
    refine m_iast C G kd_146 ln_146 g_9 hs dX12_returned_75 (fun σ_9 H locs hs G => ?_)
    obtain ⟨x2_10, e_10, hs⟩ := ltE hs
    refine lv_iinc (v := x2_10) (lv' := [(2, .int x2_10), (0, .ref (b + 132))]) hx hb dX12_returned_76 hl (k := 1) rfl (by rw [e_10]; rfl) (by decide) rfl (fun ls hl => ?_)
    refine lv_goto (tgt := 49) hx hb dX12_returned_79 (by decide) ?_
    exact hh _ _ _ _ _ hs G (lv_sub hl [1, 0] rfl)
def fX12_returned_49 : Nat → (Sg → Option (Int32 × Sg)) → Sg → Int32 → Option (Int32 × Sg)
  | 0, _, _, _ => none
  | fu + 1, kx, σ, x2 => fX12_returned_49b (fX12_returned_49 fu kx) kx σ x2
theorem fX12_returned_49_s (fu : Nat) (kx : Sg → Option (Int32 × Sg)) (σ : Sg) (x2 : Int32) : fX12_returned_49 (fu + 1) kx σ x2 = fX12_returned_49b (fX12_returned_49 fu kx) kx σ x2 := by rw [fX12_returned_49]
theorem wX12_returned_49 {p : Program} {l : Launch} {e : Env} {s : State} {m : MethodId} {args : Array Value} {below : List Frame} {meth : Method} {c : Code} {D : va_G} {cI cZ cO : ClassId} {b : Nat} (C : Cx p s m args meth c cX12_returned RX12 3 (some .int) D cI cZ cO) {Rr : (Int32 × Sg)} {kx : Sg → Option (Int32 × Sg)} (hxx : ∀ (σ : Sg) (H : Heap) (locs : List Loc) (ls : Array Slot), kx σ = some Rr → Gd b D cI cZ cO σ s.heap H locs → lv_has ls 3 [(0, .ref (b + 132))] → W p l e rmX12_returned s m args below meth c H locs 0 0 (MQ below (QI b D cI cZ cO Rr) args s 0 0 (fun q => b ≤ q)) (F0 m 82 ls [])) : ∀ (fu : Nat) (σ : Sg) (x2 : Int32) (H : Heap) (locs : List Loc) (ls : Array Slot), fX12_returned_49 fu kx σ x2 = some Rr → Gd b D cI cZ cO σ s.heap H locs → lv_has ls 3 [(0, .ref (b + 132)), (2, .int x2)] → W p l e rmX12_returned s m args below meth c H locs 0 0 (MQ below (QI b D cI cZ cO Rr) args s 0 0 (fun q => b ≤ q)) (F0 m 49 ls []) := by
  intro fu
  induction fu with
  | zero => intro σ x2 H locs ls hs; cases hs
  | succ fu ih =>
    intro σ x2 H locs ls hs G hl
    exact wX12_returned_49b C (fun σ x2 H locs ls hs G hl => ih σ x2 H locs ls hs G hl) hxx hs G hl
def fX12_returned (σ : Sg) (x1 : Int32) : Option (Int32 × Sg) :=
  bi (fX12_in σ x1.toInt64 0 999) (fun r_1 σ_1 => (if r_1 = 0 then some ((-1000000002), σ_1) else bi (fX12_isHills σ_1) (fun r_3 σ_3 => (if r_3 = 0 then some ((-1000000003), σ_3) else (if (σ_3 132 28) = 6 then some ((-1000000004), σ_3) else (if inb (σ_3 132 28) 6 then lt (st σ_3 145 (σ_3 132 28).toNatClampNeg x1) (fun σ_6 => fX12_returned_49 FU (fun σ_11 => lt (st σ_11 132 28 ((σ_11 132 28) + 1)) (fun σ_12 => some ((σ_12 132 28), σ_12))) σ_6 0) else none))))))
set_option maxRecDepth 100000 in
set_option maxHeartbeats 4000000 in
theorem ctX12_returned (l : Launch) {D : va_G} {cI cZ cO : ClassId} {b : Nat} {σ : Sg} {x1 : Int32} {Rr : (Int32 × Sg)} (hs : fX12_returned σ x1 = some Rr) : MI l yX12_returned cX12_returned 3 (some .int) rmX12_returned [.ref (b + 132), .int x1] b D cI cZ cO σ Rr := by
  unfold fX12_returned at hs
  refine metI (by decide +kernel) (Nat.le_of_ble_eq_true rfl) (fun p e s m below meth c ls C G hl => ?_)
  have C : Cx p s m _ meth c cX12_returned RX12 3 (some .int) D cI cZ cO := C
  have hx := C.1
  have hb := C.2.1
  have hl : lv_has ls 3 [(0, .ref (b + 132)), (1, .int x1)] := hl
  refine lv_iload_n hx hb dX12_returned_0 rfl (lv_at hl 1 rfl) ?_
  refine lv_i2l hx hb dX12_returned_1 rfl ?_
  refine lv_lconst (v := 0) hx hb dX12_returned_2 (by decide) ?_
  refine m_ldc2 C wd_1237 dX12_returned_3 ?_
  obtain ⟨r_1, σ_1, hc, hs⟩ := biE hs
  refine callSI (ar := 3) (As := [.long x1.toInt64, .long 0, .long 999]) (rest := []) C G hl.1 (ctX12_in _  hc) ⟨wd_988, wd_989, wd_81, wd_990⟩ (by decide +kernel) rfl ⟨rfl, rfl⟩ ⟨Nat.le_of_ble_eq_true rfl, Nat.le_of_ble_eq_true rfl⟩ (Nat.le_of_ble_eq_true rfl) ⟨Nat.le_of_ble_eq_true rfl, Nat.le_of_ble_eq_true rfl⟩ dX12_returned_6 rfl (fun H locs G => ?_)
  refine lv_if_ne (tgt := 15) hx hb dX12_returned_9 (by decide) (fun c_2 => ?_) (fun c_2 => ?_)
  · replace hs := ifF c_2 hs
    refine lv_aload_n hx hb dX12_returned_15 rfl (lv_at hl 0 rfl) ?_
    obtain ⟨r_3, σ_3, hc, hs⟩ := biE hs
    refine callVI (ar := 0) (As := []) (rest := []) C G hl.1 (ctX12_isHills _  hc) ⟨wd_1091, wd_1093, wd_45, wd_81, wd_1094⟩ (by decide +kernel) rfl ⟨rfl, rfl⟩ ⟨Nat.le_of_ble_eq_true rfl, Nat.le_of_ble_eq_true rfl⟩ (kd_lt kd_132 (by decide)) (ent_12 b cI cZ cO _ kd_132) rfl (Nat.le_of_ble_eq_true rfl) ⟨Nat.le_of_ble_eq_true rfl, Nat.le_of_ble_eq_true rfl⟩ dX12_returned_16 rfl (fun H locs G => ?_)
    refine lv_if_ne (tgt := 25) hx hb dX12_returned_19 (by decide) (fun c_4 => ?_) (fun c_4 => ?_)
    · replace hs := ifF c_4 hs
      refine lv_aload_n hx hb dX12_returned_25 rfl (lv_at hl 0 rfl) ?_
      refine gf_X12_144 C G kd_132 dX12_returned_26 ?_
      refine lv_bipush (v := 6) hx hb dX12_returned_29 (by decide) ?_
      refine lv_icmp_ne (tgt := 37) hx hb dX12_returned_31 (by decide) (fun c_5 => ?_) (fun c_5 => ?_)
      · replace hs := ifF c_5 hs
        refine lv_aload_n hx hb dX12_returned_37 rfl (lv_at hl 0 rfl) ?_
        refine gf_X12_50 C G kd_132 (n' := 145) rfl dX12_returned_38 ?_
        refine lv_aload_n hx hb dX12_returned_41 rfl (lv_at hl 0 rfl) ?_
        refine gf_X12_144 C G kd_132 dX12_returned_42 ?_
        refine lv_iload_n hx hb dX12_returned_45 rfl (lv_at hl 1 rfl) ?_
        obtain ⟨g_6, hs⟩ := gdE hs
        refine m_iast C G kd_145 ln_145 g_6 hs dX12_returned_46 (fun σ_6 H locs hs G => ?_)
        refine lv_iconst (v := 0) hx hb dX12_returned_47 (by decide) ?_
        refine lv_istore_n (lv' := [(2, .int 0), (0, .ref (b + 132)), (1, .int x1)]) hx hb dX12_returned_48 rfl hl (by decide) rfl (fun ls hl => ?_)
        refine wX12_returned_49 C (fun σ_11 H locs ls hs G hl => ?_) FU _ _ _ _ _ hs G (lv_sub hl [1, 0] rfl)
        refine lv_aload_n hx hb dX12_returned_82 rfl (lv_at hl 0 rfl) ?_
        refine lv_dup hx hb dX12_returned_83 rfl ?_
        refine gf_X12_144 C G kd_132 dX12_returned_84 ?_
        refine lv_iconst (v := 1) hx hb dX12_returned_87 (by decide) ?_
        refine lv_iadd hx hb dX12_returned_88 ?_
        refine pf_X12_144 C G kd_132 hs dX12_returned_89 (fun σ_12 H locs hs G => ?_)
        refine lv_aload_n hx hb dX12_returned_92 rfl (lv_at hl 0 rfl) ?_
        refine gf_X12_144 C G kd_132 dX12_returned_93 ?_
        exact retI C G hs dX12_returned_96
      · replace hs := ifT c_5 hs
        refine m_ldc C wd_992 dX12_returned_34 ?_
        exact retI C G hs dX12_returned_36
    · replace hs := ifT c_4 hs
      refine m_ldc C wd_1169 dX12_returned_22 ?_
      exact retI C G hs dX12_returned_24
  · replace hs := ifT c_2 hs
    refine m_ldc C wd_991 dX12_returned_12 ?_
    exact retI C G hs dX12_returned_14
