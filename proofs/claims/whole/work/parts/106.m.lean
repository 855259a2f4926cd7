-- X6_leastFrom
def rmX6_leastFrom : Room := { frames := 1, cells := 0, slots := 0, locals := 30 }
def fX6_leastFrom_58 (kh : Sg → Int32 → Int32 → Int32 → Int32 → Option (Int32 × Sg)) (kx : Sg → Int32 → Option (Int32 × Sg)) (σ : Sg) (x1 : Int32) (x2 : Int32) (x3 : Int32) (x4 : Int32) : Option (Int32 × Sg) :=
  lt (x4 + 1) (fun x4_7 => kh σ x1 x2 x3 x4_7)
set_option maxRecDepth 100000 in
set_option maxHeartbeats 4000000 in
theorem wX6_leastFrom_58 {p : Program} {l : Launch} {e : Env} {s : State} {m : MethodId} {args : Array Value} {below : List Frame} {meth : Method} {c : Code} {D : va_G} {cI cZ cO : ClassId} {b : Nat} (C : Cx p s m args meth c cX6_leastFrom RX6 5 (some .int) D cI cZ cO) {Rr : (Int32 × Sg)} {kh : Sg → Int32 → Int32 → Int32 → Int32 → Option (Int32 × Sg)} {kx : Sg → Int32 → Option (Int32 × Sg)} (hh : ∀ (σ : Sg) (x1 : Int32) (x2 : Int32) (x3 : Int32) (x4 : Int32) (H : Heap) (locs : List Loc) (ls : Array Slot), kh σ x1 x2 x3 x4 = some Rr → Gd b D cI cZ cO σ s.heap H locs → lv_has ls 5 [(0, .ref (b + 120)), (1, .int x1), (2, .int x2), (3, .int x3), (4, .int x4)] → W p l e rmX6_leastFrom s m args below meth c H locs 0 0 (MQ below (QI b D cI cZ cO Rr) args s 0 0 (fun q => b ≤ q)) (F0 m 25 ls [])) (hxx : ∀ (σ : Sg) (x3 : Int32) (H : Heap) (locs : List Loc) (ls : Array Slot), kx σ x3 = some Rr → Gd b D cI cZ cO σ s.heap H locs → lv_has ls 5 [(3, .int x3)] → W p l e rmX6_leastFrom s m args below meth c H locs 0 0 (MQ below (QI b D cI cZ cO Rr) args s 0 0 (fun q => b ≤ q)) (F0 m 64 ls [])) {σ : Sg} {x1 : Int32} {x2 : Int32} {x3 : Int32} {x4 : Int32} {H : Heap} {locs : List Loc} {ls : Array Slot} (hs : fX6_leastFrom_58 kh kx σ x1 x2 x3 x4 = some Rr) (G : Gd b D cI cZ cO σ s.heap H locs) (hl : lv_has ls 5 [(0, .ref (b + 120)), (1, .int x1), (2, .int x2), (3, .int x3), (4, .int x4)]) : W p l e rmX6_leastFrom s m args below meth c H locs 0 0 (MQ below (QI b D cI cZ cO Rr) args s 0 0 (fun q => b ≤ q)) (F0 m 58 ls []) := by
  have hx := C.1
  have hb := C.2.1
  unfold fX6_leastFrom_58 at hs
  obtain ⟨x4_7, e_7, hs⟩ := ltE hs
  refine lv_iinc (v := x4_7) (lv' := [(4, .int x4_7), (0, .ref (b + 120)), (1, .int x1), (2, .int x2), (3, .int x3)]) hx hb dX6_leastFrom_58 hl (k := 4) rfl (by rw [e_7]; rfl) (by decide) rfl (fun ls hl => ?_)
  refine lv_goto (tgt := 25) hx hb dX6_leastFrom_61 (by decide) ?_
  exact hh _ _ _ _ _ _ _ _ hs G (lv_sub hl [1, 2, 3, 4, 0] rfl)
def fX6_leastFrom_25b (kh : Sg → Int32 → Int32 → Int32 → Int32 → Option (Int32 × Sg)) (kx : Sg → Int32 → Option (Int32 × Sg)) (σ : Sg) (x1 : Int32) (x2 : Int32) (x3 : Int32) (x4 : Int32) : Option (Int32 × Sg) :=
  (if (σ 120 4) ≤ x4 then kx σ x3 else bi (fX6_mayGo σ x1 x4 x2) (fun r_5 σ_5 => (if r_5 = 0 then fX6_leastFrom_58 kh kx σ_5 x1 x2 x3 x4 else bi (fX6_leftWith σ_5 x1 x4 x2) (fun r_8 σ_8 => lt (if r_8 < x3 then r_8 else x3) (fun x3_9 => fX6_leastFrom_58 kh kx σ_8 x1 x2 x3_9 x4)))))
set_option maxRecDepth 100000 in
set_option maxHeartbeats 4000000 in
theorem wX6_leastFrom_25b {p : Program} {l : Launch} {e : Env} {s : State} {m : MethodId} {args : Array Value} {below : List Frame} {meth : Method} {c : Code} {D : va_G} {cI cZ cO : ClassId} {b : Nat} (C : Cx p s m args meth c cX6_leastFrom RX6 5 (some .int) D cI cZ cO) {Rr : (Int32 × Sg)} {kh : Sg → Int32 → Int32 → Int32 → Int32 → Option (Int32 × Sg)} {kx : Sg → Int32 → Option (Int32 × Sg)} (hh : ∀ (σ : Sg) (x1 : Int32) (x2 : Int32) (x3 : Int32) (x4 : Int32) (H : Heap) (locs : List Loc) (ls : Array Slot), kh σ x1 x2 x3 x4 = some Rr → Gd b D cI cZ cO σ s.heap H locs → lv_has ls 5 [(0, .ref (b + 120)), (1, .int x1), (2, .int x2), (3, .int x3), (4, .int x4)] → W p l e rmX6_leastFrom s m args below meth c H locs 0 0 (MQ below (QI b D cI cZ cO Rr) args s 0 0 (fun q => b ≤ q)) (F0 m 25 ls [])) (hxx : ∀ (σ : Sg) (x3 : Int32) (H : Heap) (locs : List Loc) (ls : Array Slot), kx σ x3 = some Rr → Gd b D cI cZ cO σ s.heap H locs → lv_has ls 5 [(3, .int x3)] → W p l e rmX6_leastFrom s m args below meth c H locs 0 0 (MQ below (QI b D cI cZ cO Rr) args s 0 0 (fun q => b ≤ q)) (F0 m 64 ls [])) {σ : Sg} {x1 : Int32} {x2 : Int32} {x3 : Int32} {x4 : Int32} {H : Heap} {locs : List Loc} {ls : Array Slot} (hs : fX6_leastFrom_25b kh kx σ x1 x2 x3 x4 = some Rr) (G : Gd b D cI cZ cO σ s.heap H locs) (hl : lv_has ls 5 [(0, .ref (b + 120)), (1, .int x1), (2, .int x2), (3, .int x3), (4, .int x4)]) : W p l e rmX6_leastFrom s m args below meth c H locs 0 0 (MQ below (QI b D cI cZ cO Rr) args s 0 0 (fun q => b ≤ q)) (F0 m 25 ls []) := by
  have hx := C.1
  have hb := C.2.1
  unfold fX6_leastFrom_25b at hs
  refine lv_iload hx hb dX6_leastFrom_25 (lv_at hl 4 rfl) ?_
  refine lv_aload_n hx hb dX6_leastFrom_27 rfl (lv_at hl 0 rfl) ?_
  refine gf_X6_36 C G kd_120 dX6_leastFrom_28 ?_
  refine lv_icmp_ge (tgt := 64) hx hb dX6_leastFrom_31 (by decide) (fun c_4 => ?_) (fun c_4 => ?_)
  · replace hs := ifT c_4 hs
    exact hxx _ _ _ _ _ hs G (lv_sub hl [3] rfl)
  · replace hs := ifF c_4 hs
    refine lv_aload_n hx hb dX6_leastFrom_34 rfl (lv_at hl 0 rfl) ?_
    refine lv_iload_n hx hb dX6_leastFrom_35 rfl (lv_at hl 1 rfl) ?_
    refine lv_iload hx hb dX6_leastFrom_36 (lv_at hl 4 rfl) ?_
    refine lv_iload_n hx hb dX6_leastFrom_38 rfl (lv_at hl 2 rfl) ?_
    obtain ⟨r_5, σ_5, hc, hs⟩ := biE hs
    refine callVI (ar := 3) (As := [.int x1, .int x4, .int x2]) (rest := []) C G hl.1 (ctX6_mayGo _  hc) ⟨wd_774, wd_776, wd_19, wd_80, wd_777⟩ (by decide +kernel) rfl ⟨rfl, rfl⟩ ⟨Nat.le_of_ble_eq_true rfl, Nat.le_of_ble_eq_true rfl⟩ (kd_lt kd_120 (by decide)) (ent_6 b cI cZ cO _ kd_120) rfl (Nat.le_of_ble_eq_true rfl) ⟨Nat.le_of_ble_eq_true rfl, Nat.le_of_ble_eq_true rfl⟩ dX6_leastFrom_39 rfl (fun H locs G => ?_)
    refine lv_if_eq (tgt := 58) hx hb dX6_leastFrom_42 (by decide) (fun c_6 => ?_) (fun c_6 => ?_)
    · replace hs := ifT c_6 hs
      exact wX6_leastFrom_58 C  hh hxx hs G (lv_sub hl [0, 1, 2, 3, 4] rfl)
    · replace hs := ifF c_6 hs
      refine lv_iload_n hx hb dX6_leastFrom_45 rfl (lv_at hl 3 rfl) ?_
      refine lv_aload_n hx hb dX6_leastFrom_46 rfl (lv_at hl 0 rfl) ?_
      refine lv_iload_n hx hb dX6_leastFrom_47 rfl (lv_at hl 1 rfl) ?_
      refine lv_iload hx hb dX6_leastFrom_48 (lv_at hl 4 rfl) ?_
      refine lv_iload_n hx hb dX6_leastFrom_50 rfl (lv_at hl 2 rfl) ?_
      obtain ⟨r_8, σ_8, hc, hs⟩ := biE hs
      refine callVI (ar := 3) (As := [.int x1, .int x4, .int x2]) (rest := [.int x3]) C G hl.1 (ctX6_leftWith _  hc) ⟨wd_778, wd_780, wd_20, wd_80, wd_781⟩ (by decide +kernel) rfl ⟨rfl, rfl⟩ ⟨Nat.le_of_ble_eq_true rfl, Nat.le_of_ble_eq_true rfl⟩ (kd_lt kd_120 (by decide)) (ent_6 b cI cZ cO _ kd_120) rfl (Nat.le_of_ble_eq_true rfl) ⟨Nat.le_of_ble_eq_true rfl, Nat.le_of_ble_eq_true rfl⟩ dX6_leastFrom_51 rfl (fun H locs G => ?_)
      refine m_min C hl.1 wd_782 (Nat.le_of_ble_eq_true rfl) (Nat.le_of_ble_eq_true rfl) (Nat.le_of_ble_eq_true rfl) (Nat.le_of_ble_eq_true rfl) dX6_leastFrom_54 ?_
      refine topI hs (fun x3_9 hs => ?_)
      refine lv_istore_n (lv' := [(3, .int x3_9), (0, .ref (b + 120)), (1, .int x1), (2, .int x2), (4, .int x4)]) hx hb dX6_leastFrom_57 rfl hl (by decide) rfl (fun ls hl => ?_)
      exact wX6_leastFrom_58 C  hh hxx hs G (lv_sub hl [1, 2, 3, 0, 4] rfl)
def fX6_leastFrom_25 : Nat → (Sg → Int32 → Option (Int32 × Sg)) → Sg → Int32 → Int32 → Int32 → Int32 → Option (Int32 × Sg)
  | 0, _, _, _, _, _, _ => none
  | fu + 1, kx, σ, x1, x2, x3, x4 => fX6_leastFrom_25b (fX6_leastFrom_25 fu kx) kx σ x1 x2 x3 x4
theorem fX6_leastFrom_25_s (fu : Nat) (kx : Sg → Int32 → Option (Int32 × Sg)) (σ : Sg) (x1 : Int32) (x2 : Int32) (x3 : Int32) (x4 : Int32) : fX6_leastFrom_25 (fu + 1) kx σ x1 x2 x3 x4 = fX6_leastFrom_25b (fX6_leastFrom_25 fu kx) kx σ x1 x2 x3 x4 := by rw [fX6_leastFrom_25]
theorem wX6_leastFrom_25 {p : Program} {l : Launch} {e : Env} {s : State} {m : MethodId} {args : Array Value} {below : List Frame} {meth : Method} {c : Code} {D : va_G} {cI cZ cO : ClassId} {b : Nat} (C : Cx p s m args meth c cX6_leastFrom RX6 5 (some .int) D cI cZ cO) {Rr : (Int32 × Sg)} {kx : Sg → Int32 → Option (Int32 × Sg)} (hxx : ∀ (σ : Sg) (x3 : Int32) (H : Heap) (locs : List Loc) (ls : Array Slot), kx σ x3 = some Rr → Gd b D cI cZ cO σ s.heap H locs → lv_has ls 5 [(3, .int x3)] → W p l e rmX6_leastFrom s m args below meth c H locs 0 0 (MQ below (QI b D cI cZ cO Rr) args s 0 0 (fun q => b ≤ q)) (F0 m 64 ls [])) : ∀ (fu : Nat) (σ : Sg) (x1 : Int32) (x2 : Int32) (x3 : Int32) (x4 : Int32) (H : Heap) (locs : List Loc) (ls : Array Slot), fX6_leastFrom_25 fu kx σ x1 x2 x3 x4 = some Rr → Gd b D cI cZ cO σ s.heap H locs → lv_has ls 5 [(0, .ref (b + 120)), (1, .int x1), (2, .int x2), (3, .int x3), (4, .int x4)] → W p l e rmX6_leastFrom s m args below meth c H locs 0 0 (MQ below (QI b D cI cZ cO Rr) args s 0 0 (fun q => b ≤ q)) (F0 m 25 ls []) := by
  intro fu
  induction fu with
  | zero => intro σ x1 x2 x3 x4 H locs ls hs; cases hs
  | succ fu ih =>
    intro σ x1 x2 x3 x4 H locs ls hs G hl
    exact wX6_leastFrom_25b C (fun σ x1 x2 x3 x4 H locs ls hs G hl => ih σ x1 x2 x3 x4 H locs ls hs G hl) hxx hs G hl
def fX6_leastFrom (σ : Sg) (x1 : Int32) (x2 : Int32) : Option (Int32 × Sg) :=
  (if inb x1 7 then (if inb (((x1 + 1) * 128) + x2) 1024 then lt ((σ 122 x1.toNatClampNeg) + (σ 124 (((x1 + 1) * 128) + x2).toNatClampNeg)) (fun x3_3 => fX6_leastFrom_25 FU (fun σ_10 x3_10 => some (x3_10, σ_10)) σ x1 x2 x3_3 0) else none) else none)
set_option maxRecDepth 100000 in
set_option maxHeartbeats 4000000 in
theorem ctX6_leastFrom (l : Launch) {D : va_G} {cI cZ cO : ClassId} {b : Nat} {σ : Sg} {x1 : Int32} {x2 : Int32} {Rr : (Int32 × Sg)} (hs : fX6_leastFrom σ x1 x2 = some Rr) : MI l yX6_leastFrom cX6_leastFrom 5 (some .int) rmX6_leastFrom [.ref (b + 120), .int x1, .int x2] b D cI cZ cO σ Rr := by
  unfold fX6_leastFrom at hs
  refine metI (by decide +kernel) (Nat.le_of_ble_eq_true rfl) (fun p e s m below meth c ls C G hl => ?_)
  have C : Cx p s m _ meth c cX6_leastFrom RX6 5 (some .int) D cI cZ cO := C
  have hx := C.1
  have hb := C.2.1
  have hl : lv_has ls 5 [(0, .ref (b + 120)), (1, .int x1), (2, .int x2)] := hl
  refine lv_aload_n hx hb dX6_leastFrom_0 rfl (lv_at hl 0 rfl) ?_
  refine gf_X6_15 C G kd_120 (n' := 122) rfl dX6_leastFrom_1 ?_
  refine lv_iload_n hx hb dX6_leastFrom_4 rfl (lv_at hl 1 rfl) ?_
  obtain ⟨g_1, hs⟩ := gdE hs
  refine m_iald C G kd_122 ln_122 g_1 dX6_leastFrom_5 ?_
  refine lv_aload_n hx hb dX6_leastFrom_6 rfl (lv_at hl 0 rfl) ?_
  refine gf_X6_21 C G kd_120 (n' := 124) rfl dX6_leastFrom_7 ?_
  refine lv_iload_n hx hb dX6_leastFrom_10 rfl (lv_at hl 1 rfl) ?_
  refine lv_iconst (v := 1) hx hb dX6_leastFrom_11 (by decide) ?_
  refine lv_iadd hx hb dX6_leastFrom_12 ?_
  refine lv_sipush (v := 128) hx hb dX6_leastFrom_13 (by decide) ?_
  refine lv_imul hx hb dX6_leastFrom_16 ?_
  refine lv_iload_n hx hb dX6_leastFrom_17 rfl (lv_at hl 2 rfl) ?_
  refine lv_iadd hx hb dX6_leastFrom_18 ?_
  obtain ⟨g_2, hs⟩ := gdE hs
  refine m_iald C G kd_124 ln_124 g_2 dX6_leastFrom_19 ?_
  refine lv_iadd hx hb dX6_leastFrom_20 ?_
  refine topI hs (fun x3_3 hs => ?_)
  refine lv_istore_n (lv' := [(3, .int x3_3), (0, .ref (b + 120)), (1, .int x1), (2, .int x2)]) hx hb dX6_leastFrom_21 rfl hl (by decide) rfl (fun ls hl => ?_)
  refine lv_iconst (v := 0) hx hb dX6_leastFrom_22 (by decide) ?_
  refine lv_istore (lv' := [(4, .int 0), (3, .int x3_3), (0, .ref (b + 120)), (1, .int x1), (2, .int x2)]) hx hb dX6_leastFrom_23 hl (by decide) rfl (fun ls hl => ?_)
  refine wX6_leastFrom_25 C (fun σ_10 x3_10 H locs ls hs G hl => ?_) FU _ _ _ _ _ _ _ _ hs G (lv_sub hl [2, 3, 4, 1, 0] rfl)
  refine lv_iload_n hx hb dX6_leastFrom_64 rfl (lv_at hl 0 rfl) ?_
  exact retI C G hs dX6_leastFrom_65
-- X6_firstGoer
def rmX6_firstGoer : Room := { frames := 1, cells := 0, slots := 0, locals := 23 }
def fX6_firstGoer_44 (kh : Sg → Int32 → Int32 → Int32 → Option (Int32 × Sg)) (kx : Sg → Option (Int32 × Sg)) (σ : Sg) (x1 : Int32) (x2 : Int32) (x3 : Int32) : Option (Int32 × Sg) :=
  lt (x3 + 1) (fun x3_4 => kh σ x1 x2 x3_4)
set_option maxRecDepth 100000 in
set_option maxHeartbeats 4000000 in
theorem wX6_firstGoer_44 {p : Program} {l : Launch} {e : Env} {s : State} {m : MethodId} {args : Array Value} {below : List Frame} {meth : Method} {c : Code} {D : va_G} {cI cZ cO : ClassId} {b : Nat} (C : Cx p s m args meth c cX6_firstGoer RX6 4 (some .int) D cI cZ cO) {Rr : (Int32 × Sg)} {kh : Sg → Int32 → Int32 → Int32 → Option (Int32 × Sg)} {kx : Sg → Option (Int32 × Sg)} (hh : ∀ (σ : Sg) (x1 : Int32) (x2 : Int32) (x3 : Int32) (H : Heap) (locs : List Loc) (ls : Array Slot), kh σ x1 x2 x3 = some Rr → Gd b D cI cZ cO σ s.heap H locs → lv_has ls 4 [(0, .ref (b + 120)), (1, .int x1), (2, .int x2), (3, .int x3)] → W p l e rmX6_firstGoer s m args below meth c H locs 0 0 (MQ below (QI b D cI cZ cO Rr) args s 0 0 (fun q => b ≤ q)) (F0 m 2 ls [])) (hxx : ∀ (σ : Sg) (H : Heap) (locs : List Loc) (ls : Array Slot), kx σ = some Rr → Gd b D cI cZ cO σ s.heap H locs → lv_has ls 4 [] → W p l e rmX6_firstGoer s m args below meth c H locs 0 0 (MQ below (QI b D cI cZ cO Rr) args s 0 0 (fun q => b ≤ q)) (F0 m 50 ls [])) {σ : Sg} {x1 : Int32} {x2 : Int32} {x3 : Int32} {H : Heap} {locs : List Loc} {ls : Array Slot} (hs : fX6_firstGoer_44 kh kx σ x1 x2 x3 = some Rr) (G : Gd b D cI cZ cO σ s.heap H locs) (hl : lv_has ls 4 [(0, .ref (b + 120)), (1, .int x1), (2, .int x2), (3, .int x3)]) : W p l e rmX6_firstGoer s m args below meth c H locs 0 0 (MQ below (QI b D cI cZ cO Rr) args s 0 0 (fun q => b ≤ q)) (F0 m 44 ls []) := by
  have hx := C.1
  have hb := C.2.1
  unfold fX6_firstGoer_44 at hs
  obtain ⟨x3_4, e_4, hs⟩ := ltE hs
  refine lv_iinc (v := x3_4) (lv' := [(3, .int x3_4), (0, .ref (b + 120)), (1, .int x1), (2, .int x2)]) hx hb dX6_firstGoer_44 hl (k := 3) rfl (by rw [e_4]; rfl) (by decide) rfl (fun ls hl => ?_)
  refine lv_goto (tgt := 2) hx hb dX6_firstGoer_47 (by decide) ?_
  exact hh _ _ _ _ _ _ _ hs G (lv_sub hl [1, 2, 3, 0] rfl)
def fX6_firstGoer_2b (kh : Sg → Int32 → Int32 → Int32 → Option (Int32 × Sg)) (kx : Sg → Option (Int32 × Sg)) (σ : Sg) (x1 : Int32) (x2 : Int32) (x3 : Int32) : Option (Int32 × Sg) :=
  (if (σ 120 4) ≤ x3 then kx σ else bi (fX6_mayGo σ x1 x3 x2) (fun r_2 σ_2 => (if r_2 = 0 then fX6_firstGoer_44 kh kx σ_2 x1 x2 x3 else bi (fX6_leftWith σ_2 x1 x3 x2) (fun r_5 σ_5 => (if inb ((x1 * 128) + x2) 1024 then (if r_5 = (σ_5 124 ((x1 * 128) + x2).toNatClampNeg) then some (x3, σ_5) else fX6_firstGoer_44 kh kx σ_5 x1 x2 x3) else none)))))
set_option maxRecDepth 100000 in
set_option maxHeartbeats 4000000 in
theorem wX6_firstGoer_2b {p : Program} {l : Launch} {e : Env} {s : State} {m : MethodId} {args : Array Value} {below : List Frame} {meth : Method} {c : Code} {D : va_G} {cI cZ cO : ClassId} {b : Nat} (C : Cx p s m args meth c cX6_firstGoer RX6 4 (some .int) D cI cZ cO) {Rr : (Int32 × Sg)} {kh : Sg → Int32 → Int32 → Int32 → Option (Int32 × Sg)} {kx : Sg → Option (Int32 × Sg)} (hh : ∀ (σ : Sg) (x1 : Int32) (x2 : Int32) (x3 : Int32) (H : Heap) (locs : List Loc) (ls : Array Slot), kh σ x1 x2 x3 = some Rr → Gd b D cI cZ cO σ s.heap H locs → lv_has ls 4 [(0, .ref (b + 120)), (1, .int x1), (2, .int x2), (3, .int x3)] → W p l e rmX6_firstGoer s m args below meth c H locs 0 0 (MQ below (QI b D cI cZ cO Rr) args s 0 0 (fun q => b ≤ q)) (F0 m 2 ls [])) (hxx : ∀ (σ : Sg) (H : Heap) (locs : List Loc) (ls : Array Slot), kx σ = some Rr → Gd b D cI cZ cO σ s.heap H locs → lv_has ls 4 [] → W p l e rmX6_firstGoer s m args below meth c H locs 0 0 (MQ below (QI b D cI cZ cO Rr) args s 0 0 (fun q => b ≤ q)) (F0 m 50 ls [])) {σ : Sg} {x1 : Int32} {x2 : Int32} {x3 : Int32} {H : Heap} {locs : List Loc} {ls : Array Slot} (hs : fX6_firstGoer_2b kh kx σ x1 x2 x3 = some Rr) (G : Gd b D cI cZ cO σ s.heap H locs) (hl : lv_has ls 4 [(0, .ref (b + 120)), (1, .int x1), (2, .int x2), (3, .int x3)]) : W p l e rmX6_firstGoer s m args below meth c H locs 0 0 (MQ below (QI b D cI cZ cO Rr) args s 0 0 (fun q => b ≤ q)) (F0 m 2 ls []) := by
  have hx := C.1
  have hb := C.2.1
  unfold fX6_firstGoer_2b at hs
  refine lv_iload_n hx hb dX6_firstGoer_2 rfl (lv_at hl 3 rfl) ?_
  refine lv_aload_n hx hb dX6_firstGoer_3 rfl (lv_at hl 0 rfl) ?_
  refine gf_X6_36 C G kd_120 dX6_firstGoer_4 ?_
  refine lv_icmp_ge (tgt := 50) hx hb dX6_firstGoer_7 (by decide) (fun c_1 => ?_) (fun c_1 => ?_)
  · replace hs := ifT c_1 hs
    exact hxx _ _ _ _ hs G (lv_sub hl [] rfl)
  · replace hs := ifF c_1 hs
    refine lv_aload_n hx hb dX6_firstGoer_10 rfl (lv_at hl 0 rfl) ?_
    refine lv_iload_n hx hb dX6_firstGoer_11 rfl (lv_at hl 1 rfl) ?_
    refine lv_iload_n hx hb dX6_firstGoer_12 rfl (lv_at hl 3 rfl) ?_
    refine lv_iload_n hx hb dX6_firstGoer_13 rfl (lv_at hl 2 rfl) ?_
    obtain ⟨r_2, σ_2, hc, hs⟩ := biE hs
    refine callVI (ar := 3) (As := [.int x1, .int x3, .int x2]) (rest := []) C G hl.1 (ctX6_mayGo _  hc) ⟨wd_774, wd_776, wd_19, wd_80, wd_777⟩ (by decide +kernel) rfl ⟨rfl, rfl⟩ ⟨Nat.le_of_ble_eq_true rfl, Nat.le_of_ble_eq_true rfl⟩ (kd_lt kd_120 (by decide)) (ent_6 b cI cZ cO _ kd_120) rfl (Nat.le_of_ble_eq_true rfl) ⟨Nat.le_of_ble_eq_true rfl, Nat.le_of_ble_eq_true rfl⟩ dX6_firstGoer_14 rfl (fun H locs G => ?_)
    refine lv_if_eq (tgt := 44) hx hb dX6_firstGoer_17 (by decide) (fun c_3 => ?_) (fun c_3 => ?_)
    · replace hs := ifT c_3 hs
      exact wX6_firstGoer_44 C  hh hxx hs G (lv_sub hl [0, 1, 2, 3] rfl)
    · replace hs := ifF c_3 hs
      refine lv_aload_n hx hb dX6_firstGoer_20 rfl (lv_at hl 0 rfl) ?_
      refine lv_iload_n hx hb dX6_firstGoer_21 rfl (lv_at hl 1 rfl) ?_
      refine lv_iload_n hx hb dX6_firstGoer_22 rfl (lv_at hl 3 rfl) ?_
      refine lv_iload_n hx hb dX6_firstGoer_23 rfl (lv_at hl 2 rfl) ?_
      obtain ⟨r_5, σ_5, hc, hs⟩ := biE hs
      refine callVI (ar := 3) (As := [.int x1, .int x3, .int x2]) (rest := []) C G hl.1 (ctX6_leftWith _  hc) ⟨wd_778, wd_780, wd_20, wd_80, wd_781⟩ (by decide +kernel) rfl ⟨rfl, rfl⟩ ⟨Nat.le_of_ble_eq_true rfl, Nat.le_of_ble_eq_true rfl⟩ (kd_lt kd_120 (by decide)) (ent_6 b cI cZ cO _ kd_120) rfl (Nat.le_of_ble_eq_true rfl) ⟨Nat.le_of_ble_eq_true rfl, Nat.le_of_ble_eq_true rfl⟩ dX6_firstGoer_24 rfl (fun H locs G => ?_)
      refine lv_aload_n hx hb dX6_firstGoer_27 rfl (lv_at hl 0 rfl) ?_
      refine gf_X6_21 C G kd_120 (n' := 124) rfl dX6_firstGoer_28 ?_
      refine lv_iload_n hx hb dX6_firstGoer_31 rfl (lv_at hl 1 rfl) ?_
      refine lv_sipush (v := 128) hx hb dX6_firstGoer_32 (by decide) ?_
      refine lv_imul hx hb dX6_firstGoer_35 ?_
      refine lv_iload_n hx hb dX6_firstGoer_36 rfl (lv_at hl 2 rfl) ?_
      refine lv_iadd hx hb dX6_firstGoer_37 ?_
      obtain ⟨g_6, hs⟩ := gdE hs
      refine m_iald C G kd_124 ln_124 g_6 dX6_firstGoer_38 ?_
      refine lv_icmp_ne (tgt := 44) hx hb dX6_firstGoer_39 (by decide) (fun c_7 => ?_) (fun c_7 => ?_)
      · replace hs := ifF c_7 hs
        exact wX6_firstGoer_44 C  hh hxx hs G (lv_sub hl [0, 1, 2, 3] rfl)
      · replace hs := ifT c_7 hs
        refine lv_iload_n hx hb dX6_firstGoer_42 rfl (lv_at hl 3 rfl) ?_
        exact retI C G hs dX6_firstGoer_43
def fX6_firstGoer_2 : Nat → (Sg → Option (Int32 × Sg)) → Sg → Int32 → Int32 → Int32 → Option (Int32 × Sg)
  | 0, _, _, _, _, _ => none
  | fu + 1, kx, σ, x1, x2, x3 => fX6_firstGoer_2b (fX6_firstGoer_2 fu kx) kx σ x1 x2 x3
theorem fX6_firstGoer_2_s (fu : Nat) (kx : Sg → Option (Int32 × Sg)) (σ : Sg) (x1 : Int32) (x2 : Int32) (x3 : Int32) : fX6_firstGoer_2 (fu + 1) kx σ x1 x2 x3 = fX6_firstGoer_2b (fX6_firstGoer_2 fu kx) kx σ x1 x2 x3 := by rw [fX6_firstGoer_2]
theorem wX6_firstGoer_2 {p : Program} {l : Launch} {e : Env} {s : State} {m : MethodId} {args : Array Value} {below : List Frame} {meth : Method} {c : Code} {D : va_G} {cI cZ cO : ClassId} {b : Nat} (C : Cx p s m args meth c cX6_firstGoer RX6 4 (some .int) D cI cZ cO) {Rr : (Int32 × Sg)} {kx : Sg → Option (Int32 × Sg)} (hxx : ∀ (σ : Sg) (H : Heap) (locs : List Loc) (ls : Array Slot), kx σ = some Rr → Gd b D cI cZ cO σ s.heap H locs → lv_has ls 4 [] → W p l e rmX6_firstGoer s m args below meth c H locs 0 0 (MQ below (QI b D cI cZ cO Rr) args s 0 0 (fun q => b ≤ q)) (F0 m 50 ls [])) : ∀ (fu : Nat) (σ : Sg) (x1 : Int32) (x2 : Int32) (x3 : Int32) (H : Heap) (locs : List Loc) (ls : Array Slot), fX6_firstGoer_2 fu kx σ x1 x2 x3 = some Rr → Gd b D cI cZ cO σ s.heap H locs → lv_has ls 4 [(0, .ref (b + 120)), (1, .int x1), (2, .int x2), (3, .int x3)] → W p l e rmX6_firstGoer s m args below meth c H locs 0 0 (MQ below (QI b D cI cZ cO Rr) args s 0 0 (fun q => b ≤ q)) (F0 m 2 ls []) := by
  intro fu
  induction fu with
  | zero => intro σ x1 x2 x3 H locs ls hs; cases hs
  | succ fu ih =>
    intro σ x1 x2 x3 H locs ls hs G hl
    exact wX6_firstGoer_2b C (fun σ x1 x2 x3 H locs ls hs G hl => ih σ x1 x2 x3 H locs ls hs G hl) hxx hs G hl
def fX6_firstGoer (σ : Sg) (x1 : Int32) (x2 : Int32) : Option (Int32 × Sg) :=
  fX6_firstGoer_2 FU (fun σ_8 => some ((-1), σ_8)) σ x1 x2 0
set_option maxRecDepth 100000 in
set_option maxHeartbeats 4000000 in
theorem ctX6_firstGoer (l : Launch) {D : va_G} {cI cZ cO : ClassId} {b : Nat} {σ : Sg} {x1 : Int32} {x2 : Int32} {Rr : (Int32 × Sg)} (hs : fX6_firstGoer σ x1 x2 = some Rr) : MI l yX6_firstGoer cX6_firstGoer 4 (some .int) rmX6_firstGoer [.ref (b + 120), .int x1, .int x2] b D cI cZ cO σ Rr := by
  unfold fX6_firstGoer at hs
  refine metI (by decide +kernel) (Nat.le_of_ble_eq_true rfl) (fun p e s m below meth c ls C G hl => ?_)
  have C : Cx p s m _ meth c cX6_firstGoer RX6 4 (some .int) D cI cZ cO := C
  have hx := C.1
  have hb := C.2.1
  have hl : lv_has ls 4 [(0, .ref (b + 120)), (1, .int x1), (2, .int x2)] := hl
  refine lv_iconst (v := 0) hx hb dX6_firstGoer_0 (by decide) ?_
  refine lv_istore_n (lv' := [(3, .int 0), (0, .ref (b + 120)), (1, .int x1), (2, .int x2)]) hx hb dX6_firstGoer_1 rfl hl (by decide) rfl (fun ls hl => ?_)
  refine wX6_firstGoer_2 C (fun σ_8 H locs ls hs G hl => ?_) FU _ _ _ _ _ _ _ hs G (lv_sub hl [1, 2, 3, 0] rfl)
  refine lv_iconst (v := (-1)) hx hb dX6_firstGoer_50 (by decide) ?_
  exact retI C G hs dX6_firstGoer_51
-- X6_choose
def rmX6_choose : Room := { frames := 2, cells := 0, slots := 0, locals := 46 }
def fX6_choose_45 (kh : Sg → Int32 → Int32 → Option Sg) (kx : Sg → Option Sg) (σ : Sg) (x1 : Int32) (x2 : Int32) : Option Sg :=
  lt (x2 + 1) (fun x2_6 => kh σ x1 x2_6)
set_option maxRecDepth 100000 in
set_option maxHeartbeats 4000000 in
theorem wX6_choose_45 {p : Program} {l : Launch} {e : Env} {s : State} {m : MethodId} {args : Array Value} {below : List Frame} {meth : Method} {c : Code} {D : va_G} {cI cZ cO : ClassId} {b : Nat} (C : Cx p s m args meth c cX6_choose RX6 3 none D cI cZ cO) {Rr : Sg} {kh : Sg → Int32 → Int32 → Option Sg} {kx : Sg → Option Sg} (hh : ∀ (σ : Sg) (x1 : Int32) (x2 : Int32) (H : Heap) (locs : List Loc) (ls : Array Slot), kh σ x1 x2 = some Rr → Gd b D cI cZ cO σ s.heap H locs → lv_has ls 3 [(0, .ref (b + 120)), (1, .int x1), (2, .int x2)] → W p l e rmX6_choose s m args below meth c H locs 0 0 (MQ below (QV b D cI cZ cO Rr) args s 0 0 (fun q => b ≤ q)) (F0 m 4 ls [])) (hxx : ∀ (σ : Sg) (H : Heap) (locs : List Loc) (ls : Array Slot), kx σ = some Rr → Gd b D cI cZ cO σ s.heap H locs → lv_has ls 3 [] → W p l e rmX6_choose s m args below meth c H locs 0 0 (MQ below (QV b D cI cZ cO Rr) args s 0 0 (fun q => b ≤ q)) (F0 m 51 ls [])) {σ : Sg} {x1 : Int32} {x2 : Int32} {H : Heap} {locs : List Loc} {ls : Array Slot} (hs : fX6_choose_45 kh kx σ x1 x2 = some Rr) (G : Gd b D cI cZ cO σ s.heap H locs) (hl : lv_has ls 3 [(0, .ref (b + 120)), (1, .int x1), (2, .int x2)]) : W p l e rmX6_choose s m args below meth c H locs 0 0 (MQ below (QV b D cI cZ cO Rr) args s 0 0 (fun q => b ≤ q)) (F0 m 45 ls []) := by
  have hx := C.1
  have hb := C.2.1
  unfold fX6_choose_45 at hs
  obtain ⟨x2_6, e_6, hs⟩ := ltE hs
  refine lv_iinc (v := x2_6) (lv' := [(2, .int x2_6), (0, .ref (b + 120)), (1, .int x1)]) hx hb dX6_choose_45 hl (k := 2) rfl (by rw [e_6]; rfl) (by decide) rfl (fun ls hl => ?_)
  refine lv_goto (tgt := 4) hx hb dX6_choose_48 (by decide) ?_
  exact hh _ _ _ _ _ _ hs G (lv_sub hl [1, 2, 0] rfl)
def fX6_choose_4b (kh : Sg → Int32 → Int32 → Option Sg) (kx : Sg → Option Sg) (σ : Sg) (x1 : Int32) (x2 : Int32) : Option Sg :=
  (if (σ 120 4) ≤ x2 then kx σ else bi (fX6_firstGoer σ x2 x1) (fun r_2 σ_2 => (if inb x2 7 then lt (st σ_2 121 x2.toNatClampNeg r_2) (fun σ_3 => (if inb x2 7 then (if (σ_3 121 x2.toNatClampNeg) = (-1) then fX6_choose_45 kh kx σ_3 x1 x2 else (if inb x2 7 then lt (x1 ||| ((1 : Int32) <<< ((σ_3 121 x2.toNatClampNeg) &&& 31))) (fun x1_8 => fX6_choose_45 kh kx σ_3 x1_8 x2) else none)) else none)) else none)))
set_option maxRecDepth 100000 in
set_option maxHeartbeats 4000000 in
theorem wX6_choose_4b {p : Program} {l : Launch} {e : Env} {s : State} {m : MethodId} {args : Array Value} {below : List Frame} {meth : Method} {c : Code} {D : va_G} {cI cZ cO : ClassId} {b : Nat} (C : Cx p s m args meth c cX6_choose RX6 3 none D cI cZ cO) {Rr : Sg} {kh : Sg → Int32 → Int32 → Option Sg} {kx : Sg → Option Sg} (hh : ∀ (σ : Sg) (x1 : Int32) (x2 : Int32) (H : Heap) (locs : List Loc) (ls : Array Slot), kh σ x1 x2 = some Rr → Gd b D cI cZ cO σ s.heap H locs → lv_has ls 3 [(0, .ref (b + 120)), (1, .int x1), (2, .int x2)] → W p l e rmX6_choose s m args below meth c H locs 0 0 (MQ below (QV b D cI cZ cO Rr) args s 0 0 (fun q => b ≤ q)) (F0 m 4 ls [])) (hxx : ∀ (σ : Sg) (H : Heap) (locs : List Loc) (ls : Array Slot), kx σ = some Rr → Gd b D cI cZ cO σ s.heap H locs → lv_has ls 3 [] → W p l e rmX6_choose s m args below meth c H locs 0 0 (MQ below (QV b D cI cZ cO Rr) args s 0 0 (fun q => b ≤ q)) (F0 m 51 ls [])) {σ : Sg} {x1 : Int32} {x2 : Int32} {H : Heap} {locs : List Loc} {ls : Array Slot} (hs : fX6_choose_4b kh kx σ x1 x2 = some Rr) (G : Gd b D cI cZ cO σ s.heap H locs) (hl : lv_has ls 3 [(0, .ref (b + 120)), (1, .int x1), (2, .int x2)]) : W p l e rmX6_choose s m args below meth c H locs 0 0 (MQ below (QV b D cI cZ cO Rr) args s 0 0 (fun q => b ≤ q)) (F0 m 4 ls []) := by
  have hx := C.1
  have hb := C.2.1
  unfold fX6_choose_4b at hs
  refine lv_iload_n hx hb dX6_choose_4 rfl (lv_at hl 2 rfl) ?_
  refine lv_aload_n hx hb dX6_choose_5 rfl (lv_at hl 0 rfl) ?_
  refine gf_X6_36 C G kd_120 dX6_choose_6 ?_
  refine lv_icmp_ge (tgt := 51) hx hb dX6_choose_9 (by decide) (fun c_1 => ?_) (fun c_1 => ?_)
  · replace hs := ifT c_1 hs
    exact hxx _ _ _ _ hs G (lv_sub hl [] rfl)
  · replace hs := ifF c_1 hs
    refine lv_aload_n hx hb dX6_choose_12 rfl (lv_at hl 0 rfl) ?_
    refine gf_X6_9 C G kd_120 (n' := 121) rfl dX6_choose_13 ?_
    refine lv_iload_n hx hb dX6_choose_16 rfl (lv_at hl 2 rfl) ?_
    refine lv_aload_n hx hb dX6_choose_17 rfl (lv_at hl 0 rfl) ?_
    refine lv_iload_n hx hb dX6_choose_18 rfl (lv_at hl 2 rfl) ?_
    refine lv_iload_n hx hb dX6_choose_19 rfl (lv_at hl 1 rfl) ?_
    obtain ⟨r_2, σ_2, hc, hs⟩ := biE hs
    refine callVI (ar := 2) (As := [.int x2, .int x1]) (rest := [.int x2, .ref (b + 121)]) C G hl.1 (ctX6_firstGoer _  hc) ⟨wd_787, wd_789, wd_22, wd_80, wd_790⟩ (by decide +kernel) rfl ⟨rfl, rfl⟩ ⟨Nat.le_of_ble_eq_true rfl, Nat.le_of_ble_eq_true rfl⟩ (kd_lt kd_120 (by decide)) (ent_6 b cI cZ cO _ kd_120) rfl (Nat.le_of_ble_eq_true rfl) ⟨Nat.le_of_ble_eq_true rfl, Nat.le_of_ble_eq_true rfl⟩ dX6_choose_20 rfl (fun H locs G => ?_)
    obtain ⟨g_3, hs⟩ := gdE hs
    refine m_iast C G kd_121 ln_121 g_3 hs dX6_choose_23 (fun σ_3 H locs hs G => ?_)
    refine lv_aload_n hx hb dX6_choose_24 rfl (lv_at hl 0 rfl) ?_
    refine gf_X6_9 C G kd_120 (n' := 121) rfl dX6_choose_25 ?_
    refine lv_iload_n hx hb dX6_choose_28 rfl (lv_at hl 2 rfl) ?_
    obtain ⟨g_4, hs⟩ := gdE hs
    refine m_iald C G kd_121 ln_121 g_4 dX6_choose_29 ?_
    refine lv_iconst (v := (-1)) hx hb dX6_choose_30 (by decide) ?_
    refine lv_icmp_eq (tgt := 45) hx hb dX6_choose_31 (by decide) (fun c_5 => ?_) (fun c_5 => ?_)
    · replace hs := ifT c_5 hs
      exact wX6_choose_45 C  hh hxx hs G (lv_sub hl [0, 1, 2] rfl)
    · replace hs := ifF c_5 hs
      refine lv_iload_n hx hb dX6_choose_34 rfl (lv_at hl 1 rfl) ?_
      refine lv_iconst (v := 1) hx hb dX6_choose_35 (by decide) ?_
      refine lv_aload_n hx hb dX6_choose_36 rfl (lv_at hl 0 rfl) ?_
      refine gf_X6_9 C G kd_120 (n' := 121) rfl dX6_choose_37 ?_
      refine lv_iload_n hx hb dX6_choose_40 rfl (lv_at hl 2 rfl) ?_
      obtain ⟨g_7, hs⟩ := gdE hs
      refine m_iald C G kd_121 ln_121 g_7 dX6_choose_41 ?_
      refine lv_ishl hx hb dX6_choose_42 ?_
      refine lv_ior hx hb dX6_choose_43 ?_
      refine topI hs (fun x1_8 hs => ?_)
      refine lv_istore_n (lv' := [(1, .int x1_8), (0, .ref (b + 120)), (2, .int x2)]) hx hb dX6_choose_44 rfl hl (by decide) rfl (fun ls hl => ?_)
      exact wX6_choose_45 C  hh hxx hs G (lv_sub hl [1, 0, 2] rfl)
def fX6_choose_4 : Nat → (Sg → Option Sg) → Sg → Int32 → Int32 → Option Sg
  | 0, _, _, _, _ => none
  | fu + 1, kx, σ, x1, x2 => fX6_choose_4b (fX6_choose_4 fu kx) kx σ x1 x2
theorem fX6_choose_4_s (fu : Nat) (kx : Sg → Option Sg) (σ : Sg) (x1 : Int32) (x2 : Int32) : fX6_choose_4 (fu + 1) kx σ x1 x2 = fX6_choose_4b (fX6_choose_4 fu kx) kx σ x1 x2 := by rw [fX6_choose_4]
theorem wX6_choose_4 {p : Program} {l : Launch} {e : Env} {s : State} {m : MethodId} {args : Array Value} {below : List Frame} {meth : Method} {c : Code} {D : va_G} {cI cZ cO : ClassId} {b : Nat} (C : Cx p s m args meth c cX6_choose RX6 3 none D cI cZ cO) {Rr : Sg} {kx : Sg → Option Sg} (hxx : ∀ (σ : Sg) (H : Heap) (locs : List Loc) (ls : Array Slot), kx σ = some Rr → Gd b D cI cZ cO σ s.heap H locs → lv_has ls 3 [] → W p l e rmX6_choose s m args below meth c H locs 0 0 (MQ below (QV b D cI cZ cO Rr) args s 0 0 (fun q => b ≤ q)) (F0 m 51 ls [])) : ∀ (fu : Nat) (σ : Sg) (x1 : Int32) (x2 : Int32) (H : Heap) (locs : List Loc) (ls : Array Slot), fX6_choose_4 fu kx σ x1 x2 = some Rr → Gd b D cI cZ cO σ s.heap H locs → lv_has ls 3 [(0, .ref (b + 120)), (1, .int x1), (2, .int x2)] → W p l e rmX6_choose s m args below meth c H locs 0 0 (MQ below (QV b D cI cZ cO Rr) args s 0 0 (fun q => b ≤ q)) (F0 m 4 ls []) := by
  intro fu
  induction fu with
  | zero => intro σ x1 x2 H locs ls hs; cases hs
  | succ fu ih =>
    intro σ x1 x2 H locs ls hs G hl
    exact wX6_choose_4b C (fun σ x1 x2 H locs ls hs G hl => ih σ x1 x2 H locs ls hs G hl) hxx hs G hl
def fX6_choose (σ : Sg) : Option Sg :=
  fX6_choose_4 FU (fun σ_9 => some σ_9) σ 0 0
set_option maxRecDepth 100000 in
set_option maxHeartbeats 4000000 in
theorem ctX6_choose (l : Launch) {D : va_G} {cI cZ cO : ClassId} {b : Nat} {σ : Sg} {Rr : Sg} (hs : fX6_choose σ = some Rr) : MV l yX6_choose cX6_choose 3 rmX6_choose [.ref (b + 120)] b D cI cZ cO σ Rr := by
  unfold fX6_choose at hs
  refine metV (by decide +kernel) (Nat.le_of_ble_eq_true rfl) (fun p e s m below meth c ls C G hl => ?_)
  have C : Cx p s m _ meth c cX6_choose RX6 3 none D cI cZ cO := C
  have hx := C.1
  have hb := C.2.1
  have hl : lv_has ls 3 [(0, .ref (b + 120))] := hl
  refine lv_iconst (v := 0) hx hb dX6_choose_0 (by decide) ?_
  refine lv_istore_n (lv' := [(1, .int 0), (0, .ref (b + 120))]) hx hb dX6_choose_1 rfl hl (by decide) rfl (fun ls hl => ?_)
  refine lv_iconst (v := 0) hx hb dX6_choose_2 (by decide) ?_
  refine lv_istore_n (lv' := [(2, .int 0), (1, .int 0), (0, .ref (b + 120))]) hx hb dX6_choose_3 rfl hl (by decide) rfl (fun ls hl => ?_)
  refine wX6_choose_4 C (fun σ_9 H locs ls hs G hl => ?_) FU _ _ _ _ _ _ hs G (lv_sub hl [2, 1, 0] rfl)
  exact retV C G hs dX6_choose_51
-- X6_work
def rmX6_work : Room := { frames := 5, cells := 0, slots := 0, locals := 124 }
def fX6_work_18b (kh : Sg → Int32 → Option Sg) (kx : Sg → Option Sg) (σ : Sg) (x2 : Int32) : Option Sg :=
  (if ((1 : Int32) <<< ((σ 120 4) &&& 31)) ≤ x2 then kx σ else (if inb (((σ 120 4) * 128) + x2) 1024 then lt (st σ 124 (((σ 120 4) * 128) + x2).toNatClampNeg 0) (fun σ_5 => lt (x2 + 1) (fun x2_6 => kh σ_5 x2_6)) else none))
set_option maxRecDepth 100000 in
set_option maxHeartbeats 4000000 in
theorem wX6_work_18b {p : Program} {l : Launch} {e : Env} {s : State} {m : MethodId} {args : Array Value} {below : List Frame} {meth : Method} {c : Code} {D : va_G} {cI cZ cO : ClassId} {b : Nat} (C : Cx p s m args meth c cX6_work RX6 4 none D cI cZ cO) {Rr : Sg} {kh : Sg → Int32 → Option Sg} {kx : Sg → Option Sg} (hh : ∀ (σ : Sg) (x2 : Int32) (H : Heap) (locs : List Loc) (ls : Array Slot), kh σ x2 = some Rr → Gd b D cI cZ cO σ s.heap H locs → lv_has ls 4 [(0, .ref (b + 120)), (2, .int x2)] → W p l e rmX6_work s m args below meth c H locs 0 0 (MQ below (QV b D cI cZ cO Rr) args s 0 0 (fun q => b ≤ q)) (F0 m 18 ls [])) (hxx : ∀ (σ : Sg) (H : Heap) (locs : List Loc) (ls : Array Slot), kx σ = some Rr → Gd b D cI cZ cO σ s.heap H locs → lv_has ls 4 [(0, .ref (b + 120))] → W p l e rmX6_work s m args below meth c H locs 0 0 (MQ below (QV b D cI cZ cO Rr) args s 0 0 (fun q => b ≤ q)) (F0 m 50 ls [])) {σ : Sg} {x2 : Int32} {H : Heap} {locs : List Loc} {ls : Array Slot} (hs : fX6_work_18b kh kx σ x2 = some Rr) (G : Gd b D cI cZ cO σ s.heap H locs) (hl : lv_has ls 4 [(0, .ref (b + 120)), (2, .int x2)]) : W p l e rmX6_work s m args below meth c H locs 0 0 (MQ below (QV b D cI cZ cO Rr) args s 0 0 (fun q => b ≤ q)) (F0 m 18 ls []) := by
  have hx := C.1
  have hb := C.2.1
  unfold fX6_work_18b at hs
  refine lv_iload_n hx hb dX6_work_18 rfl (lv_at hl 1 rfl) ?_
  refine lv_iconst (v := 1) hx hb dX6_work_19 (by decide) ?_
  refine lv_aload_n hx hb dX6_work_20 rfl (lv_at hl 0 rfl) ?_
  refine gf_X6_36 C G kd_120 dX6_work_21 ?_
  refine lv_ishl hx hb dX6_work_24 ?_
  refine lv_icmp_ge (tgt := 50) hx hb dX6_work_25 (by decide) (fun c_4 => ?_) (fun c_4 => ?_)
  · replace hs := ifT c_4 hs
    exact hxx _ _ _ _ hs G (lv_sub hl [0] rfl)
  · replace hs := ifF c_4 hs
    refine lv_aload_n hx hb dX6_work_28 rfl (lv_at hl 0 rfl) ?_
    refine gf_X6_21 C G kd_120 (n' := 124) rfl dX6_work_29 ?_
    refine lv_aload_n hx hb dX6_work_32 rfl (lv_at hl 0 rfl) ?_
    refine gf_X6_36 C G kd_120 dX6_work_33 ?_
    refine lv_sipush (v := 128) hx hb dX6_work_36 (by decide) ?_
    refine lv_imul hx hb dX6_work_39 ?_
    refine lv_iload_n hx hb dX6_work_40 rfl (lv_at hl 1 rfl) ?_
    refine lv_iadd hx hb dX6_work_41 ?_
    refine lv_iconst (v := 0) hx hb dX6_work_42 (by decide) ?_
    obtain ⟨g_5, hs⟩ := gdE hs
    refine m_iast C G kd_124 ln_124 g_5 hs dX6_work_43 (fun σ_5 H locs hs G => ?_)
    obtain ⟨x2_6, e_6, hs⟩ := ltE hs
    refine lv_iinc (v := x2_6) (lv' := [(2, .int x2_6), (0, .ref (b + 120))]) hx hb dX6_work_44 hl (k := 1) rfl (by rw [e_6]; rfl) (by decide) rfl (fun ls hl => ?_)
    refine lv_goto (tgt := 18) hx hb dX6_work_47 (by decide) ?_
    exact hh _ _ _ _ _ hs G (lv_sub hl [1, 0] rfl)
def fX6_work_18 : Nat → (Sg → Option Sg) → Sg → Int32 → Option Sg
  | 0, _, _, _ => none
  | fu + 1, kx, σ, x2 => fX6_work_18b (fX6_work_18 fu kx) kx σ x2
theorem fX6_work_18_s (fu : Nat) (kx : Sg → Option Sg) (σ : Sg) (x2 : Int32) : fX6_work_18 (fu + 1) kx σ x2 = fX6_work_18b (fX6_work_18 fu kx) kx σ x2 := by rw [fX6_work_18]
theorem wX6_work_18 {p : Program} {l : Launch} {e : Env} {s : State} {m : MethodId} {args : Array Value} {below : List Frame} {meth : Method} {c : Code} {D : va_G} {cI cZ cO : ClassId} {b : Nat} (C : Cx p s m args meth c cX6_work RX6 4 none D cI cZ cO) {Rr : Sg} {kx : Sg → Option Sg} (hxx : ∀ (σ : Sg) (H : Heap) (locs : List Loc) (ls : Array Slot), kx σ = some Rr → Gd b D cI cZ cO σ s.heap H locs → lv_has ls 4 [(0, .ref (b + 120))] → W p l e rmX6_work s m args below meth c H locs 0 0 (MQ below (QV b D cI cZ cO Rr) args s 0 0 (fun q => b ≤ q)) (F0 m 50 ls [])) : ∀ (fu : Nat) (σ : Sg) (x2 : Int32) (H : Heap) (locs : List Loc) (ls : Array Slot), fX6_work_18 fu kx σ x2 = some Rr → Gd b D cI cZ cO σ s.heap H locs → lv_has ls 4 [(0, .ref (b + 120)), (2, .int x2)] → W p l e rmX6_work s m args below meth c H locs 0 0 (MQ below (QV b D cI cZ cO Rr) args s 0 0 (fun q => b ≤ q)) (F0 m 18 ls []) := by
  intro fu
  induction fu with
  | zero => intro σ x2 H locs ls hs; cases hs
  | succ fu ih =>
    intro σ x2 H locs ls hs G hl
    exact wX6_work_18b C (fun σ x2 H locs ls hs G hl => ih σ x2 H locs ls hs G hl) hxx hs G hl
def fX6_work_63b (kh : Sg → Int32 → Int32 → Option Sg) (kx : Sg → Int32 → Option Sg) (σ : Sg) (x2 : Int32) (x3 : Int32) : Option Sg :=
  (if ((1 : Int32) <<< ((σ 120 4) &&& 31)) ≤ x3 then kx σ x2 else bi (fX6_leastFrom σ x2 x3) (fun r_11 σ_11 => (if inb ((x2 * 128) + x3) 1024 then lt (st σ_11 124 ((x2 * 128) + x3).toNatClampNeg r_11) (fun σ_12 => lt (x3 + 1) (fun x3_13 => kh σ_12 x2 x3_13)) else none)))
set_option maxRecDepth 100000 in
set_option maxHeartbeats 4000000 in
theorem wX6_work_63b {p : Program} {l : Launch} {e : Env} {s : State} {m : MethodId} {args : Array Value} {below : List Frame} {meth : Method} {c : Code} {D : va_G} {cI cZ cO : ClassId} {b : Nat} (C : Cx p s m args meth c cX6_work RX6 4 none D cI cZ cO) {Rr : Sg} {kh : Sg → Int32 → Int32 → Option Sg} {kx : Sg → Int32 → Option Sg} (hh : ∀ (σ : Sg) (x2 : Int32) (x3 : Int32) (H : Heap) (locs : List Loc) (ls : Array Slot), kh σ x2 x3 = some Rr → Gd b D cI cZ cO σ s.heap H locs → lv_has ls 4 [(0, .ref (b + 120)), (2, .int x2), (3, .int x3)] → W p l e rmX6_work s m args below meth c H locs 0 0 (MQ below (QV b D cI cZ cO Rr) args s 0 0 (fun q => b ≤ q)) (F0 m 63 ls [])) (hxx : ∀ (σ : Sg) (x2 : Int32) (H : Heap) (locs : List Loc) (ls : Array Slot), kx σ x2 = some Rr → Gd b D cI cZ cO σ s.heap H locs → lv_has ls 4 [(0, .ref (b + 120)), (2, .int x2)] → W p l e rmX6_work s m args below meth c H locs 0 0 (MQ below (QV b D cI cZ cO Rr) args s 0 0 (fun q => b ≤ q)) (F0 m 97 ls [])) {σ : Sg} {x2 : Int32} {x3 : Int32} {H : Heap} {locs : List Loc} {ls : Array Slot} (hs : fX6_work_63b kh kx σ x2 x3 = some Rr) (G : Gd b D cI cZ cO σ s.heap H locs) (hl : lv_has ls 4 [(0, .ref (b + 120)), (2, .int x2), (3, .int x3)]) : W p l e rmX6_work s m args below meth c H locs 0 0 (MQ below (QV b D cI cZ cO Rr) args s 0 0 (fun q => b ≤ q)) (F0 m 63 ls []) := by
  have hx := C.1
  have hb := C.2.1
  unfold fX6_work_63b at hs
  refine lv_iload_n hx hb dX6_work_63 rfl (lv_at hl 2 rfl) ?_
  refine lv_iconst (v := 1) hx hb dX6_work_64 (by decide) ?_
  refine lv_aload_n hx hb dX6_work_65 rfl (lv_at hl 0 rfl) ?_
  refine gf_X6_36 C G kd_120 dX6_work_66 ?_
  refine lv_ishl hx hb dX6_work_69 ?_
  refine lv_icmp_ge (tgt := 97) hx hb dX6_work_70 (by decide) (fun c_10 => ?_) (fun c_10 => ?_)
  · replace hs := ifT c_10 hs
    exact hxx _ _ _ _ _ hs G (lv_sub hl [0, 1] rfl)
  · replace hs := ifF c_10 hs
    refine lv_aload_n hx hb dX6_work_73 rfl (lv_at hl 0 rfl) ?_
    refine gf_X6_21 C G kd_120 (n' := 124) rfl dX6_work_74 ?_
    refine lv_iload_n hx hb dX6_work_77 rfl (lv_at hl 1 rfl) ?_
    refine lv_sipush (v := 128) hx hb dX6_work_78 (by decide) ?_
    refine lv_imul hx hb dX6_work_81 ?_
    refine lv_iload_n hx hb dX6_work_82 rfl (lv_at hl 2 rfl) ?_
    refine lv_iadd hx hb dX6_work_83 ?_
    refine lv_aload_n hx hb dX6_work_84 rfl (lv_at hl 0 rfl) ?_
    refine lv_iload_n hx hb dX6_work_85 rfl (lv_at hl 1 rfl) ?_
    refine lv_iload_n hx hb dX6_work_86 rfl (lv_at hl 2 rfl) ?_
    obtain ⟨r_11, σ_11, hc, hs⟩ := biE hs
    refine callVI (ar := 2) (As := [.int x2, .int x3]) (rest := [.int ((x2 * 128) + x3), .ref (b + 124)]) C G hl.1 (ctX6_leastFrom _  hc) ⟨wd_770, wd_772, wd_18, wd_80, wd_773⟩ (by decide +kernel) rfl ⟨rfl, rfl⟩ ⟨Nat.le_of_ble_eq_true rfl, Nat.le_of_ble_eq_true rfl⟩ (kd_lt kd_120 (by decide)) (ent_6 b cI cZ cO _ kd_120) rfl (Nat.le_of_ble_eq_true rfl) ⟨Nat.le_of_ble_eq_true rfl, Nat.le_of_ble_eq_true rfl⟩ dX6_work_87 rfl (fun H locs G => ?_)
    obtain ⟨g_12, hs⟩ := gdE hs
    refine m_iast C G kd_124 ln_124 g_12 hs dX6_work_90 (fun σ_12 H locs hs G => ?_)
    obtain ⟨x3_13, e_13, hs⟩ := ltE hs
    refine lv_iinc (v := x3_13) (lv' := [(3, .int x3_13), (0, .ref (b + 120)), (2, .int x2)]) hx hb dX6_work_91 hl (k := 2) rfl (by rw [e_13]; rfl) (by decide) rfl (fun ls hl => ?_)
    refine lv_goto (tgt := 63) hx hb dX6_work_94 (by decide) ?_
    exact hh _ _ _ _ _ _ hs G (lv_sub hl [1, 2, 0] rfl)
def fX6_work_63 : Nat → (Sg → Int32 → Option Sg) → Sg → Int32 → Int32 → Option Sg
  | 0, _, _, _, _ => none
  | fu + 1, kx, σ, x2, x3 => fX6_work_63b (fX6_work_63 fu kx) kx σ x2 x3
theorem fX6_work_63_s (fu : Nat) (kx : Sg → Int32 → Option Sg) (σ : Sg) (x2 : Int32) (x3 : Int32) : fX6_work_63 (fu + 1) kx σ x2 x3 = fX6_work_63b (fX6_work_63 fu kx) kx σ x2 x3 := by rw [fX6_work_63]
theorem wX6_work_63 {p : Program} {l : Launch} {e : Env} {s : State} {m : MethodId} {args : Array Value} {below : List Frame} {meth : Method} {c : Code} {D : va_G} {cI cZ cO : ClassId} {b : Nat} (C : Cx p s m args meth c cX6_work RX6 4 none D cI cZ cO) {Rr : Sg} {kx : Sg → Int32 → Option Sg} (hxx : ∀ (σ : Sg) (x2 : Int32) (H : Heap) (locs : List Loc) (ls : Array Slot), kx σ x2 = some Rr → Gd b D cI cZ cO σ s.heap H locs → lv_has ls 4 [(0, .ref (b + 120)), (2, .int x2)] → W p l e rmX6_work s m args below meth c H locs 0 0 (MQ below (QV b D cI cZ cO Rr) args s 0 0 (fun q => b ≤ q)) (F0 m 97 ls [])) : ∀ (fu : Nat) (σ : Sg) (x2 : Int32) (x3 : Int32) (H : Heap) (locs : List Loc) (ls : Array Slot), fX6_work_63 fu kx σ x2 x3 = some Rr → Gd b D cI cZ cO σ s.heap H locs → lv_has ls 4 [(0, .ref (b + 120)), (2, .int x2), (3, .int x3)] → W p l e rmX6_work s m args below meth c H locs 0 0 (MQ below (QV b D cI cZ cO Rr) args s 0 0 (fun q => b ≤ q)) (F0 m 63 ls []) := by
  intro fu
  induction fu with
  | zero => intro σ x2 x3 H locs ls hs; cases hs
  | succ fu ih =>
    intro σ x2 x3 H locs ls hs G hl
    exact wX6_work_63b C (fun σ x2 x3 H locs ls hs G hl => ih σ x2 x3 H locs ls hs G hl) hxx hs G hl
def fX6_work_57b (kh : Sg → Int32 → Option Sg) (kx : Sg → Option Sg) (σ : Sg) (x2 : Int32) : Option Sg :=
  (if x2 < 0 then kx σ else fX6_work_63 FU (fun σ_14 x2_14 => lt (x2_14 + (-1)) (fun x2_15 => kh σ_14 x2_15)) σ x2 0)
set_option maxRecDepth 100000 in
set_option maxHeartbeats 4000000 in
theorem wX6_work_57b {p : Program} {l : Launch} {e : Env} {s : State} {m : MethodId} {args : Array Value} {below : List Frame} {meth : Method} {c : Code} {D : va_G} {cI cZ cO : ClassId} {b : Nat} (C : Cx p s m args meth c cX6_work RX6 4 none D cI cZ cO) {Rr : Sg} {kh : Sg → Int32 → Option Sg} {kx : Sg → Option Sg} (hh : ∀ (σ : Sg) (x2 : Int32) (H : Heap) (locs : List Loc) (ls : Array Slot), kh σ x2 = some Rr → Gd b D cI cZ cO σ s.heap H locs → lv_has ls 4 [(0, .ref (b + 120)), (2, .int x2)] → W p l e rmX6_work s m args below meth c H locs 0 0 (MQ below (QV b D cI cZ cO Rr) args s 0 0 (fun q => b ≤ q)) (F0 m 57 ls [])) (hxx : ∀ (σ : Sg) (H : Heap) (locs : List Loc) (ls : Array Slot), kx σ = some Rr → Gd b D cI cZ cO σ s.heap H locs → lv_has ls 4 [(0, .ref (b + 120))] → W p l e rmX6_work s m args below meth c H locs 0 0 (MQ below (QV b D cI cZ cO Rr) args s 0 0 (fun q => b ≤ q)) (F0 m 103 ls [])) {σ : Sg} {x2 : Int32} {H : Heap} {locs : List Loc} {ls : Array Slot} (hs : fX6_work_57b kh kx σ x2 = some Rr) (G : Gd b D cI cZ cO σ s.heap H locs) (hl : lv_has ls 4 [(0, .ref (b + 120)), (2, .int x2)]) : W p l e rmX6_work s m args below meth c H locs 0 0 (MQ below (QV b D cI cZ cO Rr) args s 0 0 (fun q => b ≤ q)) (F0 m 57 ls []) := by
  have hx := C.1
  have hb := C.2.1
  unfold fX6_work_57b at hs
  refine lv_iload_n hx hb dX6_work_57 rfl (lv_at hl 1 rfl) ?_
  refine lv_if_lt (tgt := 103) hx hb dX6_work_58 (by decide) (fun c_9 => ?_) (fun c_9 => ?_)
  · replace hs := ifT c_9 hs
    exact hxx _ _ _ _ hs G (lv_sub hl [0] rfl)
  · replace hs := ifF c_9 hs
    refine lv_iconst (v := 0) hx hb dX6_work_61 (by decide) ?_
    refine lv_istore_n (lv' := [(3, .int 0), (0, .ref (b + 120)), (2, .int x2)]) hx hb dX6_work_62 rfl hl (by decide) rfl (fun ls hl => ?_)
    refine wX6_work_63 C (fun σ_14 x2_14 H locs ls hs G hl => ?_) FU _ _ _ _ _ _ hs G (lv_sub hl [1, 2, 0] rfl)
    obtain ⟨x2_15, e_15, hs⟩ := ltE hs
    refine lv_iinc (v := x2_15) (lv' := [(2, .int x2_15), (0, .ref (b + 120))]) hx hb dX6_work_97 hl (k := 1) rfl (by rw [e_15]; rfl) (by decide) rfl (fun ls hl => ?_)
    refine lv_goto (tgt := 57) hx hb dX6_work_100 (by decide) ?_
    exact hh _ _ _ _ _ hs G (lv_sub hl [1, 0] rfl)
def fX6_work_57 : Nat → (Sg → Option Sg) → Sg → Int32 → Option Sg
  | 0, _, _, _ => none
  | fu + 1, kx, σ, x2 => fX6_work_57b (fX6_work_57 fu kx) kx σ x2
theorem fX6_work_57_s (fu : Nat) (kx : Sg → Option Sg) (σ : Sg) (x2 : Int32) : fX6_work_57 (fu + 1) kx σ x2 = fX6_work_57b (fX6_work_57 fu kx) kx σ x2 := by rw [fX6_work_57]
theorem wX6_work_57 {p : Program} {l : Launch} {e : Env} {s : State} {m : MethodId} {args : Array Value} {below : List Frame} {meth : Method} {c : Code} {D : va_G} {cI cZ cO : ClassId} {b : Nat} (C : Cx p s m args meth c cX6_work RX6 4 none D cI cZ cO) {Rr : Sg} {kx : Sg → Option Sg} (hxx : ∀ (σ : Sg) (H : Heap) (locs : List Loc) (ls : Array Slot), kx σ = some Rr → Gd b D cI cZ cO σ s.heap H locs → lv_has ls 4 [(0, .ref (b + 120))] → W p l e rmX6_work s m args below meth c H locs 0 0 (MQ below (QV b D cI cZ cO Rr) args s 0 0 (fun q => b ≤ q)) (F0 m 103 ls [])) : ∀ (fu : Nat) (σ : Sg) (x2 : Int32) (H : Heap) (locs : List Loc) (ls : Array Slot), fX6_work_57 fu kx σ x2 = some Rr → Gd b D cI cZ cO σ s.heap H locs → lv_has ls 4 [(0, .ref (b + 120)), (2, .int x2)] → W p l e rmX6_work s m args below meth c H locs 0 0 (MQ below (QV b D cI cZ cO Rr) args s 0 0 (fun q => b ≤ q)) (F0 m 57 ls []) := by
  intro fu
  induction fu with
  | zero => intro σ x2 H locs ls hs; cases hs
  | succ fu ih =>
    intro σ x2 H locs ls hs G hl
    exact wX6_work_57b C (fun σ x2 H locs ls hs G hl => ih σ x2 H locs ls hs G hl) hxx hs G hl
def fX6_work (σ : Sg) : Option Sg :=
  gk 4 (dn (σ 3 0)) (fun n_1 => lt (st σ 120 4 (σ n_1 4)) (fun σ_2 => bv (fX6_tryAll σ_2) (fun σ_3 => fX6_work_18 FU (fun σ_7 => lt ((σ_7 120 4) - 1) (fun x2_8 => fX6_work_57 FU (fun σ_16 => bv (fX6_choose σ_16) (fun σ_17 => some σ_17)) σ_7 x2_8)) σ_3 0)))
set_option maxRecDepth 100000 in
set_option maxHeartbeats 4000000 in
theorem ctX6_work (l : Launch) {D : va_G} {cI cZ cO : ClassId} {b : Nat} {σ : Sg} {Rr : Sg} (hs : fX6_work σ = some Rr) : MV l yX6_work cX6_work 4 rmX6_work [.ref (b + 120), .ref (b + 3)] b D cI cZ cO σ Rr := by
  unfold fX6_work at hs
  refine metV (by decide +kernel) (Nat.le_of_ble_eq_true rfl) (fun p e s m below meth c ls C G hl => ?_)
  have C : Cx p s m _ meth c cX6_work RX6 4 none D cI cZ cO := C
  have hx := C.1
  have hb := C.2.1
  have hl : lv_has ls 4 [(0, .ref (b + 120)), (1, .ref (b + 3))] := hl
  refine lv_aload_n hx hb dX6_work_0 rfl (lv_at hl 0 rfl) ?_
  refine lv_aload_n hx hb dX6_work_1 rfl (lv_at hl 1 rfl) ?_
  obtain ⟨n_1, en_1, hk_1, hs⟩ := gkE hs
  refine gf_X6_24 C G kd_3 en_1 dX6_work_2 ?_
  refine gf_X6_30 C G hk_1 dX6_work_5 ?_
  refine pf_X6_36 C G kd_120 hs dX6_work_8 (fun σ_2 H locs hs G => ?_)
  refine lv_aload_n hx hb dX6_work_11 rfl (lv_at hl 0 rfl) ?_
  refine lv_aload_n hx hb dX6_work_12 rfl (lv_at hl 1 rfl) ?_
  obtain ⟨σ_3, hc, hs⟩ := bvE hs
  refine callVV (ar := 1) (As := [.ref (b + 3)]) (rest := []) C G hl.1 (ctX6_tryAll _  hc) ⟨wd_764, wd_766, wd_17, wd_80, wd_767⟩ (by decide +kernel) rfl ⟨rfl, rfl⟩ ⟨Nat.le_of_ble_eq_true rfl, Nat.le_of_ble_eq_true rfl⟩ (kd_lt kd_120 (by decide)) (ent_6 b cI cZ cO _ kd_120) rfl (Nat.le_of_ble_eq_true rfl) ⟨Nat.le_of_ble_eq_true rfl, Nat.le_of_ble_eq_true rfl⟩ dX6_work_13 rfl (fun H locs G => ?_)
  refine lv_iconst (v := 0) hx hb dX6_work_16 (by decide) ?_
  refine lv_istore_n (lv' := [(2, .int 0), (0, .ref (b + 120)), (1, .ref (b + 3))]) hx hb dX6_work_17 rfl hl (by decide) rfl (fun ls hl => ?_)
  refine wX6_work_18 C (fun σ_7 H locs ls hs G hl => ?_) FU _ _ _ _ _ hs G (lv_sub hl [1, 0] rfl)
  refine lv_aload_n hx hb dX6_work_50 rfl (lv_at hl 0 rfl) ?_
  refine gf_X6_36 C G kd_120 dX6_work_51 ?_
  refine lv_iconst (v := 1) hx hb dX6_work_54 (by decide) ?_
  refine lv_isub hx hb dX6_work_55 ?_
  refine topI hs (fun x2_8 hs => ?_)
  refine lv_istore_n (lv' := [(2, .int x2_8), (0, .ref (b + 120))]) hx hb dX6_work_56 rfl hl (by decide) rfl (fun ls hl => ?_)
  refine wX6_work_57 C (fun σ_16 H locs ls hs G hl => ?_) FU _ _ _ _ _ hs G (lv_sub hl [1, 0] rfl)
  refine lv_aload_n hx hb dX6_work_103 rfl (lv_at hl 0 rfl) ?_
  obtain ⟨σ_17, hc, hs⟩ := bvE hs
  refine callVV (ar := 0) (As := []) (rest := []) C G hl.1 (ctX6_choose _  hc) ⟨wd_783, wd_785, wd_21, wd_80, wd_786⟩ (by decide +kernel) rfl ⟨rfl, rfl⟩ ⟨Nat.le_of_ble_eq_true rfl, Nat.le_of_ble_eq_true rfl⟩ (kd_lt kd_120 (by decide)) (ent_6 b cI cZ cO _ kd_120) rfl (Nat.le_of_ble_eq_true rfl) ⟨Nat.le_of_ble_eq_true rfl, Nat.le_of_ble_eq_true rfl⟩ dX6_work_104 rfl (fun H locs G => ?_)
  exact retV C G hs dX6_work_107
-- X6_total
def rmX6_total : Room := { frames := 0, cells := 0, slots := 0, locals := 0 }
def fX6_total (σ : Sg) : Option (Int32 × Sg) :=
  (if inb 0 1024 then some ((σ 124 (0 : Int32).toNatClampNeg), σ) else none)
set_option maxRecDepth 100000 in
set_option maxHeartbeats 4000000 in
theorem ctX6_total (l : Launch) {D : va_G} {cI cZ cO : ClassId} {b : Nat} {σ : Sg} {Rr : (Int32 × Sg)} (hs : fX6_total σ = some Rr) : MI l yX6_total cX6_total 1 (some .int) rmX6_total [.ref (b + 120)] b D cI cZ cO σ Rr := by
  unfold fX6_total at hs
  refine metI (by decide +kernel) (Nat.le_of_ble_eq_true rfl) (fun p e s m below meth c ls C G hl => ?_)
  have C : Cx p s m _ meth c cX6_total RX6 1 (some .int) D cI cZ cO := C
  have hx := C.1
  have hb := C.2.1
  have hl : lv_has ls 1 [(0, .ref (b + 120))] := hl
  refine lv_aload_n hx hb dX6_total_0 rfl (lv_at hl 0 rfl) ?_
  refine gf_X6_21 C G kd_120 (n' := 124) rfl dX6_total_1 ?_
  refine lv_iconst (v := 0) hx hb dX6_total_4 (by decide) ?_
  obtain ⟨g_1, hs⟩ := gdE hs
  refine m_iald C G kd_124 ln_124 g_1 dX6_total_5 ?_
  exact retI C G hs dX6_total_6
-- X7_remember
def rmX7_remember : Room := { frames := 2, cells := 0, slots := 0, locals := 51 }
def fX7_remember_32 (n1 : Nat) (σ : Sg) : Option Sg :=
  (if inb (((σ 17 1) + (σ 17 0)) - ((σ 17 1) + (σ 17 0)) / 16 * 16) 16 then gk 10 (19 + 5 * (((σ 17 1) + (σ 17 0)) - ((σ 17 1) + (σ 17 0)) / 16 * 16).toNatClampNeg) (fun n_2 => bv (fX10_copyFrom n_2 n1 σ) (fun σ_3 => lt (st σ_3 17 0 ((σ_3 17 0) + 1)) (fun σ_4 => some σ_4))) else none)
set_option maxRecDepth 100000 in
set_option maxHeartbeats 4000000 in
theorem wX7_remember_32 {p : Program} {l : Launch} {e : Env} {s : State} {m : MethodId} {args : Array Value} {below : List Frame} {meth : Method} {c : Code} {D : va_G} {cI cZ cO : ClassId} {b : Nat} (C : Cx p s m args meth c cX7_remember RX7 2 none D cI cZ cO) {n1 : Nat} (hk1 : kd n1 = 10) {Rr : Sg} {σ : Sg} {H : Heap} {locs : List Loc} {ls : Array Slot} (hs : fX7_remember_32 n1 σ = some Rr) (G : Gd b D cI cZ cO σ s.heap H locs) (hl : lv_has ls 2 [(0, .ref (b + 17)), (1, .ref (b + n1))]) : W p l e rmX7_remember s m args below meth c H locs 0 0 (MQ below (QV b D cI cZ cO Rr) args s 0 0 (fun q => b ≤ q)) (F0 m 32 ls []) := by
  have hx := C.1
  have hb := C.2.1
  unfold fX7_remember_32 at hs
  refine lv_aload_n hx hb dX7_remember_32 rfl (lv_at hl 0 rfl) ?_
  refine gf_X7_11 C G kd_17 (n' := 18) rfl dX7_remember_33 ?_
  refine lv_aload_n hx hb dX7_remember_36 rfl (lv_at hl 0 rfl) ?_
  refine gf_X7_22 C G kd_17 dX7_remember_37 ?_
  refine lv_aload_n hx hb dX7_remember_40 rfl (lv_at hl 0 rfl) ?_
  refine gf_X7_18 C G kd_17 dX7_remember_41 ?_
  refine lv_iadd hx hb dX7_remember_44 ?_
  refine lv_bipush (v := 16) hx hb dX7_remember_45 (by decide) ?_
  refine lv_irem hx hb dX7_remember_47 (by decide) ?_
  obtain ⟨g_2, hs⟩ := gdE hs
  obtain ⟨n_2, en_2, hk_2, hs⟩ := gkE hs
  refine m_aald15 C G kd_18 g_2 en_2.symm dX7_remember_48 ?_
  refine lv_aload_n hx hb dX7_remember_49 rfl (lv_at hl 1 rfl) ?_
  obtain ⟨σ_3, hc, hs⟩ := bvE hs
  refine callVV (ar := 1) (As := [.ref (b + n1)]) (rest := []) C G hl.1 (ctX10_copyFrom _ hk_2 hk1 hc) ⟨wd_654, wd_655, wd_656, wd_73, wd_657⟩ (by decide +kernel) rfl ⟨rfl, rfl⟩ ⟨Nat.le_of_ble_eq_true rfl, Nat.le_of_ble_eq_true rfl⟩ (kd_lt hk_2 (by decide)) (ent_10 b cI cZ cO _ hk_2) rfl (Nat.le_of_ble_eq_true rfl) ⟨Nat.le_of_ble_eq_true rfl, Nat.le_of_ble_eq_true rfl⟩ dX7_remember_50 rfl (fun H locs G => ?_)
  refine lv_aload_n hx hb dX7_remember_53 rfl (lv_at hl 0 rfl) ?_
  refine lv_dup hx hb dX7_remember_54 rfl ?_
  refine gf_X7_18 C G kd_17 dX7_remember_55 ?_
  refine lv_iconst (v := 1) hx hb dX7_remember_58 (by decide) ?_
  refine lv_iadd hx hb dX7_remember_59 ?_
  refine pf_X7_18 C G kd_17 hs dX7_remember_60 (fun σ_4 H locs hs G => ?_)
  exact retV C G hs dX7_remember_63
def fX7_remember (n1 : Nat) (σ : Sg) : Option Sg :=
  (if (σ 17 0) = 16 then lt (st σ 17 1 (((σ 17 1) + 1) - ((σ 17 1) + 1) / 16 * 16)) (fun σ_5 => lt (st σ_5 17 0 ((σ_5 17 0) - 1)) (fun σ_6 => fX7_remember_32 n1 σ_6)) else fX7_remember_32 n1 σ)
set_option maxRecDepth 100000 in
set_option maxHeartbeats 4000000 in
theorem ctX7_remember (l : Launch) {n1 : Nat} (hk1 : kd n1 = 10) {D : va_G} {cI cZ cO : ClassId} {b : Nat} {σ : Sg} {Rr : Sg} (hs : fX7_remember n1 σ = some Rr) : MV l yX7_remember cX7_remember 2 rmX7_remember [.ref (b + 17), .ref (b + n1)] b D cI cZ cO σ Rr := by
  unfold fX7_remember at hs
  refine metV (by decide +kernel) (Nat.le_of_ble_eq_true rfl) (fun p e s m below meth c ls C G hl => ?_)
  have C : Cx p s m _ meth c cX7_remember RX7 2 none D cI cZ cO := C
  have hx := C.1
  have hb := C.2.1
  have hl : lv_has ls 2 [(0, .ref (b + 17)), (1, .ref (b + n1))] := hl
  refine lv_aload_n hx hb dX7_remember_0 rfl (lv_at hl 0 rfl) ?_
  refine gf_X7_18 C G kd_17 dX7_remember_1 ?_
  refine lv_bipush (v := 16) hx hb dX7_remember_4 (by decide) ?_
  refine lv_icmp_ne (tgt := 32) hx hb dX7_remember_6 (by decide) (fun c_1 => ?_) (fun c_1 => ?_)
  · replace hs := ifF c_1 hs
    exact wX7_remember_32 C hk1  hs G (lv_sub hl [0, 1] rfl)
  · replace hs := ifT c_1 hs
    refine lv_aload_n hx hb dX7_remember_9 rfl (lv_at hl 0 rfl) ?_
    refine lv_aload_n hx hb dX7_remember_10 rfl (lv_at hl 0 rfl) ?_
    refine gf_X7_22 C G kd_17 dX7_remember_11 ?_
    refine lv_iconst (v := 1) hx hb dX7_remember_14 (by decide) ?_
    refine lv_iadd hx hb dX7_remember_15 ?_
    refine lv_bipush (v := 16) hx hb dX7_remember_16 (by decide) ?_
    refine lv_irem hx hb dX7_remember_18 (by decide) ?_
    refine pf_X7_22 C G kd_17 hs dX7_remember_19 (fun σ_5 H locs hs G => ?_)
    refine lv_aload_n hx hb dX7_remember_22 rfl (lv_at hl 0 rfl) ?_
    refine lv_dup hx hb dX7_remember_23 rfl ?_
    refine gf_X7_18 C G kd_17 dX7_remember_24 ?_
    refine lv_iconst (v := 1) hx hb dX7_remember_27 (by decide) ?_
    refine lv_isub hx hb dX7_remember_28 ?_
    refine pf_X7_18 C G kd_17 hs dX7_remember_29 (fun σ_6 H locs hs G => ?_)
    exact wX7_remember_32 C hk1  hs G (lv_sub hl [0, 1] rfl)
-- X7_restore
def rmX7_restore : Room := { frames := 2, cells := 0, slots := 0, locals := 51 }
def fX7_restore (n1 : Nat) (σ : Sg) : Option Sg :=
  (if (σ 17 0) = 0 then some σ else lt (st σ 17 0 ((σ 17 0) - 1)) (fun σ_2 => (if inb (((σ_2 17 1) + (σ_2 17 0)) - ((σ_2 17 1) + (σ_2 17 0)) / 16 * 16) 16 then gk 10 (19 + 5 * (((σ_2 17 1) + (σ_2 17 0)) - ((σ_2 17 1) + (σ_2 17 0)) / 16 * 16).toNatClampNeg) (fun n_3 => bv (fX10_copyFrom n1 n_3 σ_2) (fun σ_4 => some σ_4)) else none)))
set_option maxRecDepth 100000 in
set_option maxHeartbeats 4000000 in
theorem ctX7_restore (l : Launch) {n1 : Nat} (hk1 : kd n1 = 10) {D : va_G} {cI cZ cO : ClassId} {b : Nat} {σ : Sg} {Rr : Sg} (hs : fX7_restore n1 σ = some Rr) : MV l yX7_restore cX7_restore 2 rmX7_restore [.ref (b + 17), .ref (b + n1)] b D cI cZ cO σ Rr := by
  unfold fX7_restore at hs
  refine metV (by decide +kernel) (Nat.le_of_ble_eq_true rfl) (fun p e s m below meth c ls C G hl => ?_)
  have C : Cx p s m _ meth c cX7_restore RX7 2 none D cI cZ cO := C
  have hx := C.1
  have hb := C.2.1
  have hl : lv_has ls 2 [(0, .ref (b + 17)), (1, .ref (b + n1))] := hl
  refine lv_aload_n hx hb dX7_restore_0 rfl (lv_at hl 0 rfl) ?_
  refine gf_X7_18 C G kd_17 dX7_restore_1 ?_
  refine lv_if_ne (tgt := 8) hx hb dX7_restore_4 (by decide) (fun c_1 => ?_) (fun c_1 => ?_)
  · replace hs := ifF c_1 hs
    refine lv_aload_n hx hb dX7_restore_8 rfl (lv_at hl 0 rfl) ?_
    refine lv_dup hx hb dX7_restore_9 rfl ?_
    refine gf_X7_18 C G kd_17 dX7_restore_10 ?_
    refine lv_iconst (v := 1) hx hb dX7_restore_13 (by decide) ?_
    refine lv_isub hx hb dX7_restore_14 ?_
    refine pf_X7_18 C G kd_17 hs dX7_restore_15 (fun σ_2 H locs hs G => ?_)
    refine lv_aload_n hx hb dX7_restore_18 rfl (lv_at hl 1 rfl) ?_
    refine lv_aload_n hx hb dX7_restore_19 rfl (lv_at hl 0 rfl) ?_
    refine gf_X7_11 C G kd_17 (n' := 18) rfl dX7_restore_20 ?_
    refine lv_aload_n hx hb dX7_restore_23 rfl (lv_at hl 0 rfl) ?_
    refine gf_X7_22 C G kd_17 dX7_restore_24 ?_
    refine lv_aload_n hx hb dX7_restore_27 rfl (lv_at hl 0 rfl) ?_
    refine gf_X7_18 C G kd_17 dX7_restore_28 ?_
    refine lv_iadd hx hb dX7_restore_31 ?_
    refine lv_bipush (v := 16) hx hb dX7_restore_32 (by decide) ?_
    refine lv_irem hx hb dX7_restore_34 (by decide) ?_
    obtain ⟨g_3, hs⟩ := gdE hs
    obtain ⟨n_3, en_3, hk_3, hs⟩ := gkE hs
    refine m_aald15 C G kd_18 g_3 en_3.symm dX7_restore_35 ?_
    obtain ⟨σ_4, hc, hs⟩ := bvE hs
    refine callVV (ar := 1) (As := [.ref (b + n_3)]) (rest := []) C G hl.1 (ctX10_copyFrom _ hk1 hk_3 hc) ⟨wd_654, wd_655, wd_656, wd_73, wd_657⟩ (by decide +kernel) rfl ⟨rfl, rfl⟩ ⟨Nat.le_of_ble_eq_true rfl, Nat.le_of_ble_eq_true rfl⟩ (kd_lt hk1 (by decide)) (ent_10 b cI cZ cO _ hk1) rfl (Nat.le_of_ble_eq_true rfl) ⟨Nat.le_of_ble_eq_true rfl, Nat.le_of_ble_eq_true rfl⟩ dX7_restore_36 rfl (fun H locs G => ?_)
    exact retV C G hs dX7_restore_39
  · replace hs := ifT c_1 hs
    exact retV C G hs dX7_restore_7
-- X7_forget
def rmX7_forget : Room := { frames := 0, cells := 0, slots := 0, locals := 0 }
def fX7_forget (σ : Sg) : Option Sg :=
  lt (st σ 17 0 0) (fun σ_1 => some σ_1)
set_option maxRecDepth 100000 in
set_option maxHeartbeats 4000000 in
theorem ctX7_forget (l : Launch) {D : va_G} {cI cZ cO : ClassId} {b : Nat} {σ : Sg} {Rr : Sg} (hs : fX7_forget σ = some Rr) : MV l yX7_forget cX7_forget 1 rmX7_forget [.ref (b + 17)] b D cI cZ cO σ Rr := by
  unfold fX7_forget at hs
  refine metV (by decide +kernel) (Nat.le_of_ble_eq_true rfl) (fun p e s m below meth c ls C G hl => ?_)
  have C : Cx p s m _ meth c cX7_forget RX7 1 none D cI cZ cO := C
  have hx := C.1
  have hb := C.2.1
  have hl : lv_has ls 1 [(0, .ref (b + 17))] := hl
  refine lv_aload_n hx hb dX7_forget_0 rfl (lv_at hl 0 rfl) ?_
  refine lv_iconst (v := 0) hx hb dX7_forget_1 (by decide) ?_
  refine pf_X7_18 C G kd_17 hs dX7_forget_2 (fun σ_1 H locs hs G => ?_)
  exact retV C G hs dX7_forget_5
