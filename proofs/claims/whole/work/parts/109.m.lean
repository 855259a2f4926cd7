-- X9_inEach
def rmX9_inEach : Room := { frames := 2, cells := 0, slots := 0, locals := 46 }
def fX9_inEach_24 (n1 : Nat) (kh : Sg → Int32 → Int32 → Option (Int32 × Sg)) (kx : Sg → Int32 → Option (Int32 × Sg)) (σ : Sg) (x2 : Int32) (x3 : Int32) : Option (Int32 × Sg) :=
  lt (x3 + 1) (fun x3_6 => kh σ x2 x3_6)
set_option maxRecDepth 100000 in
set_option maxHeartbeats 4000000 in
theorem wX9_inEach_24 {p : Program} {l : Launch} {e : Env} {s : State} {m : MethodId} {args : Array Value} {below : List Frame} {meth : Method} {c : Code} {D : va_G} {cI cZ cO : ClassId} {b : Nat} (C : Cx p s m args meth c cX9_inEach RX9 4 (some .int) D cI cZ cO) {n1 : Nat} (hk1 : kd n1 = 4) {Rr : (Int32 × Sg)} {kh : Sg → Int32 → Int32 → Option (Int32 × Sg)} {kx : Sg → Int32 → Option (Int32 × Sg)} (hh : ∀ (σ : Sg) (x2 : Int32) (x3 : Int32) (H : Heap) (locs : List Loc) (ls : Array Slot), kh σ x2 x3 = some Rr → Gd b D cI cZ cO σ s.heap H locs → lv_has ls 4 [(0, .ref (b + 114)), (1, .ref (b + n1)), (2, .int x2), (3, .int x3)] → W p l e rmX9_inEach s m args below meth c H locs 0 0 (MQ below (QI b D cI cZ cO Rr) args s 0 0 (fun q => b ≤ q)) (F0 m 4 ls [])) (hxx : ∀ (σ : Sg) (x2 : Int32) (H : Heap) (locs : List Loc) (ls : Array Slot), kx σ x2 = some Rr → Gd b D cI cZ cO σ s.heap H locs → lv_has ls 4 [(2, .int x2)] → W p l e rmX9_inEach s m args below meth c H locs 0 0 (MQ below (QI b D cI cZ cO Rr) args s 0 0 (fun q => b ≤ q)) (F0 m 30 ls [])) {σ : Sg} {x2 : Int32} {x3 : Int32} {H : Heap} {locs : List Loc} {ls : Array Slot} (hs : fX9_inEach_24 n1 kh kx σ x2 x3 = some Rr) (G : Gd b D cI cZ cO σ s.heap H locs) (hl : lv_has ls 4 [(0, .ref (b + 114)), (1, .ref (b + n1)), (2, .int x2), (3, .int x3)]) : W p l e rmX9_inEach s m args below meth c H locs 0 0 (MQ below (QI b D cI cZ cO Rr) args s 0 0 (fun q => b ≤ q)) (F0 m 24 ls []) := by
  have hx := C.1
  have hb := C.2.1
  unfold fX9_inEach_24 at hs
  obtain ⟨x3_6, e_6, hs⟩ := ltE hs
  refine lv_iinc (v := x3_6) (lv' := [(3, .int x3_6), (0, .ref (b + 114)), (1, .ref (b + n1)), (2, .int x2)]) hx hb dX9_inEach_24 hl (k := 3) rfl (by rw [e_6]; rfl) (by decide) rfl (fun ls hl => ?_)
  refine lv_goto (tgt := 4) hx hb dX9_inEach_27 (by decide) ?_
  exact hh _ _ _ _ _ _ hs G (lv_sub hl [1, 2, 3, 0] rfl)
def fX9_inEach_4b (n1 : Nat) (kh : Sg → Int32 → Int32 → Option (Int32 × Sg)) (kx : Sg → Int32 → Option (Int32 × Sg)) (σ : Sg) (x2 : Int32) (x3 : Int32) : Option (Int32 × Sg) :=
  bi (fX9_setsOf n1 σ) (fun r_2 σ_2 => (if r_2 ≤ x3 then kx σ_2 x2 else bi (fX9_fits σ_2 x3) (fun r_4 σ_4 => (if r_4 = 0 then fX9_inEach_24 n1 kh kx σ_4 x2 x3 else lt (x2 &&& x3) (fun x2_7 => fX9_inEach_24 n1 kh kx σ_4 x2_7 x3)))))
set_option maxRecDepth 100000 in
set_option maxHeartbeats 4000000 in
theorem wX9_inEach_4b {p : Program} {l : Launch} {e : Env} {s : State} {m : MethodId} {args : Array Value} {below : List Frame} {meth : Method} {c : Code} {D : va_G} {cI cZ cO : ClassId} {b : Nat} (C : Cx p s m args meth c cX9_inEach RX9 4 (some .int) D cI cZ cO) {n1 : Nat} (hk1 : kd n1 = 4) {Rr : (Int32 × Sg)} {kh : Sg → Int32 → Int32 → Option (Int32 × Sg)} {kx : Sg → Int32 → Option (Int32 × Sg)} (hh : ∀ (σ : Sg) (x2 : Int32) (x3 : Int32) (H : Heap) (locs : List Loc) (ls : Array Slot), kh σ x2 x3 = some Rr → Gd b D cI cZ cO σ s.heap H locs → lv_has ls 4 [(0, .ref (b + 114)), (1, .ref (b + n1)), (2, .int x2), (3, .int x3)] → W p l e rmX9_inEach s m args below meth c H locs 0 0 (MQ below (QI b D cI cZ cO Rr) args s 0 0 (fun q => b ≤ q)) (F0 m 4 ls [])) (hxx : ∀ (σ : Sg) (x2 : Int32) (H : Heap) (locs : List Loc) (ls : Array Slot), kx σ x2 = some Rr → Gd b D cI cZ cO σ s.heap H locs → lv_has ls 4 [(2, .int x2)] → W p l e rmX9_inEach s m args below meth c H locs 0 0 (MQ below (QI b D cI cZ cO Rr) args s 0 0 (fun q => b ≤ q)) (F0 m 30 ls [])) {σ : Sg} {x2 : Int32} {x3 : Int32} {H : Heap} {locs : List Loc} {ls : Array Slot} (hs : fX9_inEach_4b n1 kh kx σ x2 x3 = some Rr) (G : Gd b D cI cZ cO σ s.heap H locs) (hl : lv_has ls 4 [(0, .ref (b + 114)), (1, .ref (b + n1)), (2, .int x2), (3, .int x3)]) : W p l e rmX9_inEach s m args below meth c H locs 0 0 (MQ below (QI b D cI cZ cO Rr) args s 0 0 (fun q => b ≤ q)) (F0 m 4 ls []) := by
  have hx := C.1
  have hb := C.2.1
  unfold fX9_inEach_4b at hs
  refine lv_iload_n hx hb dX9_inEach_4 rfl (lv_at hl 3 rfl) ?_
  refine lv_aload_n hx hb dX9_inEach_5 rfl (lv_at hl 1 rfl) ?_
  obtain ⟨r_2, σ_2, hc, hs⟩ := biE hs
  refine callSI (ar := 1) (As := [.ref (b + n1)]) (rest := [.int x3]) C G hl.1 (ctX9_setsOf _ hk1 hc) ⟨wd_562, wd_563, wd_78, wd_564⟩ (by decide +kernel) rfl ⟨rfl, rfl⟩ ⟨Nat.le_of_ble_eq_true rfl, Nat.le_of_ble_eq_true rfl⟩ (Nat.le_of_ble_eq_true rfl) ⟨Nat.le_of_ble_eq_true rfl, Nat.le_of_ble_eq_true rfl⟩ dX9_inEach_6 rfl (fun H locs G => ?_)
  refine lv_icmp_ge (tgt := 30) hx hb dX9_inEach_9 (by decide) (fun c_3 => ?_) (fun c_3 => ?_)
  · replace hs := ifT c_3 hs
    exact hxx _ _ _ _ _ hs G (lv_sub hl [2] rfl)
  · replace hs := ifF c_3 hs
    refine lv_aload_n hx hb dX9_inEach_12 rfl (lv_at hl 0 rfl) ?_
    refine lv_iload_n hx hb dX9_inEach_13 rfl (lv_at hl 3 rfl) ?_
    obtain ⟨r_4, σ_4, hc, hs⟩ := biE hs
    refine callVI (ar := 1) (As := [.int x3]) (rest := []) C G hl.1 (ctX9_fits _  hc) ⟨wd_565, wd_567, wd_12, wd_78, wd_568⟩ (by decide +kernel) rfl ⟨rfl, rfl⟩ ⟨Nat.le_of_ble_eq_true rfl, Nat.le_of_ble_eq_true rfl⟩ (kd_lt kd_114 (by decide)) (ent_9 b cI cZ cO _ kd_114) rfl (Nat.le_of_ble_eq_true rfl) ⟨Nat.le_of_ble_eq_true rfl, Nat.le_of_ble_eq_true rfl⟩ dX9_inEach_14 rfl (fun H locs G => ?_)
    refine lv_if_eq (tgt := 24) hx hb dX9_inEach_17 (by decide) (fun c_5 => ?_) (fun c_5 => ?_)
    · replace hs := ifT c_5 hs
      exact wX9_inEach_24 C hk1 hh hxx hs G (lv_sub hl [0, 1, 2, 3] rfl)
    · replace hs := ifF c_5 hs
      refine lv_iload_n hx hb dX9_inEach_20 rfl (lv_at hl 2 rfl) ?_
      refine lv_iload_n hx hb dX9_inEach_21 rfl (lv_at hl 3 rfl) ?_
      refine lv_iand hx hb dX9_inEach_22 ?_
      refine topI hs (fun x2_7 hs => ?_)
      refine lv_istore_n (lv' := [(2, .int x2_7), (0, .ref (b + 114)), (1, .ref (b + n1)), (3, .int x3)]) hx hb dX9_inEach_23 rfl hl (by decide) rfl (fun ls hl => ?_)
      exact wX9_inEach_24 C hk1 hh hxx hs G (lv_sub hl [1, 2, 0, 3] rfl)
def fX9_inEach_4 (n1 : Nat) : Nat → (Sg → Int32 → Option (Int32 × Sg)) → Sg → Int32 → Int32 → Option (Int32 × Sg)
  | 0, _, _, _, _ => none
  | fu + 1, kx, σ, x2, x3 => fX9_inEach_4b n1 (fX9_inEach_4 n1 fu kx) kx σ x2 x3
theorem fX9_inEach_4_s (n1 : Nat) (fu : Nat) (kx : Sg → Int32 → Option (Int32 × Sg)) (σ : Sg) (x2 : Int32) (x3 : Int32) : fX9_inEach_4 n1 (fu + 1) kx σ x2 x3 = fX9_inEach_4b n1 (fX9_inEach_4 n1 fu kx) kx σ x2 x3 := by rw [fX9_inEach_4]
theorem wX9_inEach_4 {p : Program} {l : Launch} {e : Env} {s : State} {m : MethodId} {args : Array Value} {below : List Frame} {meth : Method} {c : Code} {D : va_G} {cI cZ cO : ClassId} {b : Nat} (C : Cx p s m args meth c cX9_inEach RX9 4 (some .int) D cI cZ cO) {n1 : Nat} (hk1 : kd n1 = 4) {Rr : (Int32 × Sg)} {kx : Sg → Int32 → Option (Int32 × Sg)} (hxx : ∀ (σ : Sg) (x2 : Int32) (H : Heap) (locs : List Loc) (ls : Array Slot), kx σ x2 = some Rr → Gd b D cI cZ cO σ s.heap H locs → lv_has ls 4 [(2, .int x2)] → W p l e rmX9_inEach s m args below meth c H locs 0 0 (MQ below (QI b D cI cZ cO Rr) args s 0 0 (fun q => b ≤ q)) (F0 m 30 ls [])) : ∀ (fu : Nat) (σ : Sg) (x2 : Int32) (x3 : Int32) (H : Heap) (locs : List Loc) (ls : Array Slot), fX9_inEach_4 n1 fu kx σ x2 x3 = some Rr → Gd b D cI cZ cO σ s.heap H locs → lv_has ls 4 [(0, .ref (b + 114)), (1, .ref (b + n1)), (2, .int x2), (3, .int x3)] → W p l e rmX9_inEach s m args below meth c H locs 0 0 (MQ below (QI b D cI cZ cO Rr) args s 0 0 (fun q => b ≤ q)) (F0 m 4 ls []) := by
  intro fu
  induction fu with
  | zero => intro σ x2 x3 H locs ls hs; cases hs
  | succ fu ih =>
    intro σ x2 x3 H locs ls hs G hl
    exact wX9_inEach_4b C hk1 (fun σ x2 x3 H locs ls hs G hl => ih σ x2 x3 H locs ls hs G hl) hxx hs G hl
def fX9_inEach (n1 : Nat) (σ : Sg) : Option (Int32 × Sg) :=
  lt (-1) (fun x2_1 => fX9_inEach_4 n1 FU (fun σ_8 x2_8 => some (x2_8, σ_8)) σ x2_1 0)
set_option maxRecDepth 100000 in
set_option maxHeartbeats 4000000 in
theorem ctX9_inEach (l : Launch) {n1 : Nat} (hk1 : kd n1 = 4) {D : va_G} {cI cZ cO : ClassId} {b : Nat} {σ : Sg} {Rr : (Int32 × Sg)} (hs : fX9_inEach n1 σ = some Rr) : MI l yX9_inEach cX9_inEach 4 (some .int) rmX9_inEach [.ref (b + 114), .ref (b + n1)] b D cI cZ cO σ Rr := by
  unfold fX9_inEach at hs
  refine metI (by decide +kernel) (Nat.le_of_ble_eq_true rfl) (fun p e s m below meth c ls C G hl => ?_)
  have C : Cx p s m _ meth c cX9_inEach RX9 4 (some .int) D cI cZ cO := C
  have hx := C.1
  have hb := C.2.1
  have hl : lv_has ls 4 [(0, .ref (b + 114)), (1, .ref (b + n1))] := hl
  refine lv_iconst (v := (-1)) hx hb dX9_inEach_0 (by decide) ?_
  refine topI hs (fun x2_1 hs => ?_)
  refine lv_istore_n (lv' := [(2, .int x2_1), (0, .ref (b + 114)), (1, .ref (b + n1))]) hx hb dX9_inEach_1 rfl hl (by decide) rfl (fun ls hl => ?_)
  refine lv_iconst (v := 0) hx hb dX9_inEach_2 (by decide) ?_
  refine lv_istore_n (lv' := [(3, .int 0), (2, .int x2_1), (0, .ref (b + 114)), (1, .ref (b + n1))]) hx hb dX9_inEach_3 rfl hl (by decide) rfl (fun ls hl => ?_)
  refine wX9_inEach_4 C hk1 (fun σ_8 x2_8 H locs ls hs G hl => ?_) FU _ _ _ _ _ _ hs G (lv_sub hl [2, 3, 1, 0] rfl)
  refine lv_iload_n hx hb dX9_inEach_30 rfl (lv_at hl 0 rfl) ?_
  exact retI C G hs dX9_inEach_31
-- X9_ask
def rmX9_ask : Room := { frames := 4, cells := 0, slots := 0, locals := 91 }
def fX9_ask_59 (n1 : Nat) (kh : Sg → Int32 → Int32 → Int32 → Int32 → Option (Int32 × Sg)) (kx : Sg → Int32 → Option (Int32 × Sg)) (σ : Sg) (x2 : Int32) (x3 : Int32) (x4 : Int32) (x5 : Int32) : Option (Int32 × Sg) :=
  lt (x5 + 1) (fun x5_7 => kh σ x2 x3 x4 x5_7)
set_option maxRecDepth 100000 in
set_option maxHeartbeats 4000000 in
theorem wX9_ask_59 {p : Program} {l : Launch} {e : Env} {s : State} {m : MethodId} {args : Array Value} {below : List Frame} {meth : Method} {c : Code} {D : va_G} {cI cZ cO : ClassId} {b : Nat} (C : Cx p s m args meth c cX9_ask RX9 8 (some .int) D cI cZ cO) {n1 : Nat} (hk1 : kd n1 = 4) {Rr : (Int32 × Sg)} {kh : Sg → Int32 → Int32 → Int32 → Int32 → Option (Int32 × Sg)} {kx : Sg → Int32 → Option (Int32 × Sg)} (hh : ∀ (σ : Sg) (x2 : Int32) (x3 : Int32) (x4 : Int32) (x5 : Int32) (H : Heap) (locs : List Loc) (ls : Array Slot), kh σ x2 x3 x4 x5 = some Rr → Gd b D cI cZ cO σ s.heap H locs → lv_has ls 8 [(0, .ref (b + 114)), (1, .ref (b + n1)), (2, .int x2), (3, .int x3), (4, .int x4), (5, .int x5)] → W p l e rmX9_ask s m args below meth c H locs 0 0 (MQ below (QI b D cI cZ cO Rr) args s 0 0 (fun q => b ≤ q)) (F0 m 14 ls [])) (hxx : ∀ (σ : Sg) (x3 : Int32) (H : Heap) (locs : List Loc) (ls : Array Slot), kx σ x3 = some Rr → Gd b D cI cZ cO σ s.heap H locs → lv_has ls 8 [(3, .int x3)] → W p l e rmX9_ask s m args below meth c H locs 0 0 (MQ below (QI b D cI cZ cO Rr) args s 0 0 (fun q => b ≤ q)) (F0 m 65 ls [])) {σ : Sg} {x2 : Int32} {x3 : Int32} {x4 : Int32} {x5 : Int32} {H : Heap} {locs : List Loc} {ls : Array Slot} (hs : fX9_ask_59 n1 kh kx σ x2 x3 x4 x5 = some Rr) (G : Gd b D cI cZ cO σ s.heap H locs) (hl : lv_has ls 8 [(0, .ref (b + 114)), (1, .ref (b + n1)), (2, .int x2), (3, .int x3), (4, .int x4), (5, .int x5)]) : W p l e rmX9_ask s m args below meth c H locs 0 0 (MQ below (QI b D cI cZ cO Rr) args s 0 0 (fun q => b ≤ q)) (F0 m 59 ls []) := by
  have hx := C.1
  have hb := C.2.1
  unfold fX9_ask_59 at hs
  obtain ⟨x5_7, e_7, hs⟩ := ltE hs
  refine lv_iinc (v := x5_7) (lv' := [(5, .int x5_7), (0, .ref (b + 114)), (1, .ref (b + n1)), (2, .int x2), (3, .int x3), (4, .int x4)]) hx hb dX9_ask_59 hl (k := 5) rfl (by rw [e_7]; rfl) (by decide) rfl (fun ls hl => ?_)
  refine lv_goto (tgt := 14) hx hb dX9_ask_62 (by decide) ?_
  exact hh _ _ _ _ _ _ _ _ hs G (lv_sub hl [1, 2, 3, 4, 5, 0] rfl)
def fX9_ask_14b (n1 : Nat) (kh : Sg → Int32 → Int32 → Int32 → Int32 → Option (Int32 × Sg)) (kx : Sg → Int32 → Option (Int32 × Sg)) (σ : Sg) (x2 : Int32) (x3 : Int32) (x4 : Int32) (x5 : Int32) : Option (Int32 × Sg) :=
  (if (σ n1 3) ≤ x5 then kx σ x3 else bi (fX9_countWith n1 σ ((1 : Int32) <<< (x5 &&& 31))) (fun r_4 σ_4 => lt (if r_4 < (x2 - r_4) then (x2 - r_4) else r_4) (fun x7_5 => (if x4 ≤ x7_5 then fX9_ask_59 n1 kh kx σ_4 x2 x3 x4 x5 else fX9_ask_59 n1 kh kx σ_4 x2 x5 x7_5 x5))))
set_option maxRecDepth 100000 in
set_option maxHeartbeats 4000000 in
theorem wX9_ask_14b {p : Program} {l : Launch} {e : Env} {s : State} {m : MethodId} {args : Array Value} {below : List Frame} {meth : Method} {c : Code} {D : va_G} {cI cZ cO : ClassId} {b : Nat} (C : Cx p s m args meth c cX9_ask RX9 8 (some .int) D cI cZ cO) {n1 : Nat} (hk1 : kd n1 = 4) {Rr : (Int32 × Sg)} {kh : Sg → Int32 → Int32 → Int32 → Int32 → Option (Int32 × Sg)} {kx : Sg → Int32 → Option (Int32 × Sg)} (hh : ∀ (σ : Sg) (x2 : Int32) (x3 : Int32) (x4 : Int32) (x5 : Int32) (H : Heap) (locs : List Loc) (ls : Array Slot), kh σ x2 x3 x4 x5 = some Rr → Gd b D cI cZ cO σ s.heap H locs → lv_has ls 8 [(0, .ref (b + 114)), (1, .ref (b + n1)), (2, .int x2), (3, .int x3), (4, .int x4), (5, .int x5)] → W p l e rmX9_ask s m args below meth c H locs 0 0 (MQ below (QI b D cI cZ cO Rr) args s 0 0 (fun q => b ≤ q)) (F0 m 14 ls [])) (hxx : ∀ (σ : Sg) (x3 : Int32) (H : Heap) (locs : List Loc) (ls : Array Slot), kx σ x3 = some Rr → Gd b D cI cZ cO σ s.heap H locs → lv_has ls 8 [(3, .int x3)] → W p l e rmX9_ask s m args below meth c H locs 0 0 (MQ below (QI b D cI cZ cO Rr) args s 0 0 (fun q => b ≤ q)) (F0 m 65 ls [])) {σ : Sg} {x2 : Int32} {x3 : Int32} {x4 : Int32} {x5 : Int32} {H : Heap} {locs : List Loc} {ls : Array Slot} (hs : fX9_ask_14b n1 kh kx σ x2 x3 x4 x5 = some Rr) (G : Gd b D cI cZ cO σ s.heap H locs) (hl : lv_has ls 8 [(0, .ref (b + 114)), (1, .ref (b + n1)), (2, .int x2), (3, .int x3), (4, .int x4), (5, .int x5)]) : W p l e rmX9_ask s m args below meth c H locs 0 0 (MQ below (QI b D cI cZ cO Rr) args s 0 0 (fun q => b ≤ q)) (F0 m 14 ls []) := by
  have hx := C.1
  have hb := C.2.1
  unfold fX9_ask_14b at hs
  refine lv_iload hx hb dX9_ask_14 (lv_at hl 5 rfl) ?_
  refine lv_aload_n hx hb dX9_ask_16 rfl (lv_at hl 1 rfl) ?_
  refine gf_X9_34 C G hk1 dX9_ask_17 ?_
  refine lv_icmp_ge (tgt := 65) hx hb dX9_ask_20 (by decide) (fun c_3 => ?_) (fun c_3 => ?_)
  · replace hs := ifT c_3 hs
    exact hxx _ _ _ _ _ hs G (lv_sub hl [3] rfl)
  · replace hs := ifF c_3 hs
    refine lv_aload_n hx hb dX9_ask_23 rfl (lv_at hl 0 rfl) ?_
    refine lv_aload_n hx hb dX9_ask_24 rfl (lv_at hl 1 rfl) ?_
    refine lv_iconst (v := 1) hx hb dX9_ask_25 (by decide) ?_
    refine lv_iload hx hb dX9_ask_26 (lv_at hl 5 rfl) ?_
    refine lv_ishl hx hb dX9_ask_28 ?_
    obtain ⟨r_4, σ_4, hc, hs⟩ := biE hs
    refine callVI (ar := 2) (As := [.ref (b + n1), .int ((1 : Int32) <<< (x5 &&& 31))]) (rest := []) C G hl.1 (ctX9_countWith _ hk1 hc) ⟨wd_558, wd_560, wd_11, wd_78, wd_561⟩ (by decide +kernel) rfl ⟨rfl, rfl⟩ ⟨Nat.le_of_ble_eq_true rfl, Nat.le_of_ble_eq_true rfl⟩ (kd_lt kd_114 (by decide)) (ent_9 b cI cZ cO _ kd_114) rfl (Nat.le_of_ble_eq_true rfl) ⟨Nat.le_of_ble_eq_true rfl, Nat.le_of_ble_eq_true rfl⟩ dX9_ask_29 rfl (fun H locs G => ?_)
    refine lv_istore (lv' := [(6, .int r_4), (0, .ref (b + 114)), (1, .ref (b + n1)), (2, .int x2), (3, .int x3), (4, .int x4), (5, .int x5)]) hx hb dX9_ask_32 hl (by decide) rfl (fun ls hl => ?_)
    refine lv_iload hx hb dX9_ask_34 (lv_at hl 0 rfl) ?_
    refine lv_iload_n hx hb dX9_ask_36 rfl (lv_at hl 3 rfl) ?_
    refine lv_iload hx hb dX9_ask_37 (lv_at hl 0 rfl) ?_
    refine lv_isub hx hb dX9_ask_39 ?_
    refine m_max C hl.1 wd_582 (Nat.le_of_ble_eq_true rfl) (Nat.le_of_ble_eq_true rfl) (Nat.le_of_ble_eq_true rfl) (Nat.le_of_ble_eq_true rfl) dX9_ask_40 ?_
    refine topI hs (fun x7_5 hs => ?_)
    refine lv_istore (lv' := [(7, .int x7_5), (6, .int r_4), (0, .ref (b + 114)), (1, .ref (b + n1)), (2, .int x2), (3, .int x3), (4, .int x4), (5, .int x5)]) hx hb dX9_ask_43 hl (by decide) rfl (fun ls hl => ?_)
    refine lv_iload hx hb dX9_ask_45 (lv_at hl 0 rfl) ?_
    refine lv_iload hx hb dX9_ask_47 (lv_at hl 6 rfl) ?_
    refine lv_icmp_ge (tgt := 59) hx hb dX9_ask_49 (by decide) (fun c_6 => ?_) (fun c_6 => ?_)
    · replace hs := ifT c_6 hs
      exact wX9_ask_59 C hk1 hh hxx hs G (lv_sub hl [2, 3, 4, 5, 6, 7] rfl)
    · replace hs := ifF c_6 hs
      refine lv_iload hx hb dX9_ask_52 (lv_at hl 0 rfl) ?_
      refine lv_istore (lv' := [(4, .int x7_5), (7, .int x7_5), (6, .int r_4), (0, .ref (b + 114)), (1, .ref (b + n1)), (2, .int x2), (3, .int x3), (5, .int x5)]) hx hb dX9_ask_54 hl (by decide) rfl (fun ls hl => ?_)
      refine lv_iload hx hb dX9_ask_56 (lv_at hl 7 rfl) ?_
      refine lv_istore_n (lv' := [(3, .int x5), (4, .int x7_5), (7, .int x7_5), (6, .int r_4), (0, .ref (b + 114)), (1, .ref (b + n1)), (2, .int x2), (5, .int x5)]) hx hb dX9_ask_58 rfl hl (by decide) rfl (fun ls hl => ?_)
      exact wX9_ask_59 C hk1 hh hxx hs G (lv_sub hl [4, 5, 6, 0, 1, 7] rfl)
def fX9_ask_14 (n1 : Nat) : Nat → (Sg → Int32 → Option (Int32 × Sg)) → Sg → Int32 → Int32 → Int32 → Int32 → Option (Int32 × Sg)
  | 0, _, _, _, _, _, _ => none
  | fu + 1, kx, σ, x2, x3, x4, x5 => fX9_ask_14b n1 (fX9_ask_14 n1 fu kx) kx σ x2 x3 x4 x5
theorem fX9_ask_14_s (n1 : Nat) (fu : Nat) (kx : Sg → Int32 → Option (Int32 × Sg)) (σ : Sg) (x2 : Int32) (x3 : Int32) (x4 : Int32) (x5 : Int32) : fX9_ask_14 n1 (fu + 1) kx σ x2 x3 x4 x5 = fX9_ask_14b n1 (fX9_ask_14 n1 fu kx) kx σ x2 x3 x4 x5 := by rw [fX9_ask_14]
theorem wX9_ask_14 {p : Program} {l : Launch} {e : Env} {s : State} {m : MethodId} {args : Array Value} {below : List Frame} {meth : Method} {c : Code} {D : va_G} {cI cZ cO : ClassId} {b : Nat} (C : Cx p s m args meth c cX9_ask RX9 8 (some .int) D cI cZ cO) {n1 : Nat} (hk1 : kd n1 = 4) {Rr : (Int32 × Sg)} {kx : Sg → Int32 → Option (Int32 × Sg)} (hxx : ∀ (σ : Sg) (x3 : Int32) (H : Heap) (locs : List Loc) (ls : Array Slot), kx σ x3 = some Rr → Gd b D cI cZ cO σ s.heap H locs → lv_has ls 8 [(3, .int x3)] → W p l e rmX9_ask s m args below meth c H locs 0 0 (MQ below (QI b D cI cZ cO Rr) args s 0 0 (fun q => b ≤ q)) (F0 m 65 ls [])) : ∀ (fu : Nat) (σ : Sg) (x2 : Int32) (x3 : Int32) (x4 : Int32) (x5 : Int32) (H : Heap) (locs : List Loc) (ls : Array Slot), fX9_ask_14 n1 fu kx σ x2 x3 x4 x5 = some Rr → Gd b D cI cZ cO σ s.heap H locs → lv_has ls 8 [(0, .ref (b + 114)), (1, .ref (b + n1)), (2, .int x2), (3, .int x3), (4, .int x4), (5, .int x5)] → W p l e rmX9_ask s m args below meth c H locs 0 0 (MQ below (QI b D cI cZ cO Rr) args s 0 0 (fun q => b ≤ q)) (F0 m 14 ls []) := by
  intro fu
  induction fu with
  | zero => intro σ x2 x3 x4 x5 H locs ls hs; cases hs
  | succ fu ih =>
    intro σ x2 x3 x4 x5 H locs ls hs G hl
    exact wX9_ask_14b C hk1 (fun σ x2 x3 x4 x5 H locs ls hs G hl => ih σ x2 x3 x4 x5 H locs ls hs G hl) hxx hs G hl
def fX9_ask (n1 : Nat) (σ : Sg) : Option (Int32 × Sg) :=
  bi (fX9_countSets n1 σ) (fun r_1 σ_1 => lt (-1) (fun x3_2 => fX9_ask_14 n1 FU (fun σ_8 x3_8 => some (x3_8, σ_8)) σ_1 r_1 x3_2 r_1 0))
set_option maxRecDepth 100000 in
set_option maxHeartbeats 4000000 in
theorem ctX9_ask (l : Launch) {n1 : Nat} (hk1 : kd n1 = 4) {D : va_G} {cI cZ cO : ClassId} {b : Nat} {σ : Sg} {Rr : (Int32 × Sg)} (hs : fX9_ask n1 σ = some Rr) : MI l yX9_ask cX9_ask 8 (some .int) rmX9_ask [.ref (b + 114), .ref (b + n1)] b D cI cZ cO σ Rr := by
  unfold fX9_ask at hs
  refine metI (by decide +kernel) (Nat.le_of_ble_eq_true rfl) (fun p e s m below meth c ls C G hl => ?_)
  have C : Cx p s m _ meth c cX9_ask RX9 8 (some .int) D cI cZ cO := C
  have hx := C.1
  have hb := C.2.1
  have hl : lv_has ls 8 [(0, .ref (b + 114)), (1, .ref (b + n1))] := hl
  refine lv_aload_n hx hb dX9_ask_0 rfl (lv_at hl 0 rfl) ?_
  refine lv_aload_n hx hb dX9_ask_1 rfl (lv_at hl 1 rfl) ?_
  obtain ⟨r_1, σ_1, hc, hs⟩ := biE hs
  refine callVI (ar := 1) (As := [.ref (b + n1)]) (rest := []) C G hl.1 (ctX9_countSets _ hk1 hc) ⟨wd_581, wd_555, wd_556, wd_78, wd_557⟩ (by decide +kernel) rfl ⟨rfl, rfl⟩ ⟨Nat.le_of_ble_eq_true rfl, Nat.le_of_ble_eq_true rfl⟩ (kd_lt kd_114 (by decide)) (ent_9 b cI cZ cO _ kd_114) rfl (Nat.le_of_ble_eq_true rfl) ⟨Nat.le_of_ble_eq_true rfl, Nat.le_of_ble_eq_true rfl⟩ dX9_ask_2 rfl (fun H locs G => ?_)
  refine lv_istore_n (lv' := [(2, .int r_1), (0, .ref (b + 114)), (1, .ref (b + n1))]) hx hb dX9_ask_5 rfl hl (by decide) rfl (fun ls hl => ?_)
  refine lv_iconst (v := (-1)) hx hb dX9_ask_6 (by decide) ?_
  refine topI hs (fun x3_2 hs => ?_)
  refine lv_istore_n (lv' := [(3, .int x3_2), (2, .int r_1), (0, .ref (b + 114)), (1, .ref (b + n1))]) hx hb dX9_ask_7 rfl hl (by decide) rfl (fun ls hl => ?_)
  refine lv_iload_n hx hb dX9_ask_8 rfl (lv_at hl 1 rfl) ?_
  refine lv_istore (lv' := [(4, .int r_1), (3, .int x3_2), (2, .int r_1), (0, .ref (b + 114)), (1, .ref (b + n1))]) hx hb dX9_ask_9 hl (by decide) rfl (fun ls hl => ?_)
  refine lv_iconst (v := 0) hx hb dX9_ask_11 (by decide) ?_
  refine lv_istore (lv' := [(5, .int 0), (4, .int r_1), (3, .int x3_2), (2, .int r_1), (0, .ref (b + 114)), (1, .ref (b + n1))]) hx hb dX9_ask_12 hl (by decide) rfl (fun ls hl => ?_)
  refine wX9_ask_14 C hk1 (fun σ_8 x3_8 H locs ls hs G hl => ?_) FU _ _ _ _ _ _ _ _ hs G (lv_sub hl [4, 5, 3, 2, 1, 0] rfl)
  refine lv_iload_n hx hb dX9_ask_65 rfl (lv_at hl 0 rfl) ?_
  exact retI C G hs dX9_ask_66
-- X10_begin
def rmX10_begin : Room := { frames := 1, cells := 0, slots := 0, locals := 30 }
def fX10_begin (n0 : Nat) (n1 : Nat) (σ : Sg) : Option Sg :=
  lt (st σ n0 0 (σ n1 1)) (fun σ_1 => lt (st σ_1 n0 1 0) (fun σ_2 => lt (st σ_2 n0 2 0) (fun σ_3 => lt (st σ_3 n0 3 0) (fun σ_4 => lt (st σ_4 n0 4 0) (fun σ_5 => bv (fJ7_fill_53178 (n0 + 1) σ_5 0) (fun σ_6 => bv (fJ7_fill_53178 (n0 + 2) σ_6 0) (fun σ_7 => (if ¬ (0 : Int32) < 0 ∧ ¬ (0 : Int32) < 0 ∧ ¬ (7 : Int32) < 0 ∧ (0 : Int32).toNatClampNeg + (7 : Int32).toNatClampNeg ≤ 7 ∧ (0 : Int32).toNatClampNeg + (7 : Int32).toNatClampNeg ≤ 7 then lt (sr σ_7 (n0 + 3) (va_cpy (σ_7 (n1 + 3)) (σ_7 (n0 + 3)) (0 : Int32).toNatClampNeg (0 : Int32).toNatClampNeg (7 : Int32).toNatClampNeg)) (fun σ_8 => (if ¬ (0 : Int32) < 0 ∧ ¬ (0 : Int32) < 0 ∧ ¬ (4 : Int32) < 0 ∧ (0 : Int32).toNatClampNeg + (4 : Int32).toNatClampNeg ≤ 4 ∧ (0 : Int32).toNatClampNeg + (4 : Int32).toNatClampNeg ≤ 4 then lt (sr σ_8 (n0 + 4) (va_cpy (σ_8 (n1 + 5)) (σ_8 (n0 + 4)) (0 : Int32).toNatClampNeg (0 : Int32).toNatClampNeg (4 : Int32).toNatClampNeg)) (fun σ_9 => some σ_9) else none)) else none))))))))
set_option maxRecDepth 100000 in
set_option maxHeartbeats 4000000 in
theorem ctX10_begin (l : Launch) {n0 : Nat} {n1 : Nat} (hk0 : kd n0 = 10) (hk1 : kd n1 = 4) {D : va_G} {cI cZ cO : ClassId} {b : Nat} {σ : Sg} {Rr : Sg} (hs : fX10_begin n0 n1 σ = some Rr) : MV l yX10_begin cX10_begin 2 rmX10_begin [.ref (b + n0), .ref (b + n1)] b D cI cZ cO σ Rr := by
  unfold fX10_begin at hs
  refine metV (by decide +kernel) (Nat.le_of_ble_eq_true rfl) (fun p e s m below meth c ls C G hl => ?_)
  have C : Cx p s m _ meth c cX10_begin RX10 2 none D cI cZ cO := C
  have hx := C.1
  have hb := C.2.1
  have hl : lv_has ls 2 [(0, .ref (b + n0)), (1, .ref (b + n1))] := hl
  refine lv_aload_n hx hb dX10_begin_0 rfl (lv_at hl 0 rfl) ?_
  refine lv_aload_n hx hb dX10_begin_1 rfl (lv_at hl 1 rfl) ?_
  refine gf_X10_24 C G hk1 dX10_begin_2 ?_
  refine pf_X10_30 C G hk0 hs dX10_begin_5 (fun σ_1 H locs hs G => ?_)
  refine lv_aload_n hx hb dX10_begin_8 rfl (lv_at hl 0 rfl) ?_
  refine lv_iconst (v := 0) hx hb dX10_begin_9 (by decide) ?_
  refine pf_X10_31 C G hk0 hs dX10_begin_10 (fun σ_2 H locs hs G => ?_)
  refine lv_aload_n hx hb dX10_begin_13 rfl (lv_at hl 0 rfl) ?_
  refine lv_iconst (v := 0) hx hb dX10_begin_14 (by decide) ?_
  refine pf_X10_34 C G hk0 hs dX10_begin_15 (fun σ_3 H locs hs G => ?_)
  refine lv_aload_n hx hb dX10_begin_18 rfl (lv_at hl 0 rfl) ?_
  refine lv_iconst (v := 0) hx hb dX10_begin_19 (by decide) ?_
  refine pf_X10_37 C G hk0 hs dX10_begin_20 (fun σ_4 H locs hs G => ?_)
  refine lv_aload_n hx hb dX10_begin_23 rfl (lv_at hl 0 rfl) ?_
  refine lv_iconst (v := 0) hx hb dX10_begin_24 (by decide) ?_
  refine pf_X10_40 C G hk0 hs dX10_begin_25 (fun σ_5 H locs hs G => ?_)
  refine lv_aload_n hx hb dX10_begin_28 rfl (lv_at hl 0 rfl) ?_
  refine gf_X10_9 C G hk0 (n' := (n0 + 1)) rfl dX10_begin_29 ?_
  refine lv_iconst (v := 0) hx hb dX10_begin_32 (by decide) ?_
  obtain ⟨σ_6, hc, hs⟩ := bvE hs
  refine callSV (ar := 2) (As := [.ref (b + (n0 + 1)), .int 0]) (rest := []) C G hl.1 (ctJ7_fill_53178 _ (kS1 hk0) hc) ⟨wd_501, wd_441, wd_82, wd_442⟩ (by decide +kernel) rfl ⟨rfl, rfl⟩ ⟨Nat.le_of_ble_eq_true rfl, Nat.le_of_ble_eq_true rfl⟩ (Nat.le_of_ble_eq_true rfl) ⟨Nat.le_of_ble_eq_true rfl, Nat.le_of_ble_eq_true rfl⟩ dX10_begin_33 rfl (fun H locs G => ?_)
  refine lv_aload_n hx hb dX10_begin_36 rfl (lv_at hl 0 rfl) ?_
  refine gf_X10_15 C G hk0 (n' := (n0 + 2)) rfl dX10_begin_37 ?_
  refine lv_iconst (v := 0) hx hb dX10_begin_40 (by decide) ?_
  obtain ⟨σ_7, hc, hs⟩ := bvE hs
  refine callSV (ar := 2) (As := [.ref (b + (n0 + 2)), .int 0]) (rest := []) C G hl.1 (ctJ7_fill_53178 _ (kS2 hk0) hc) ⟨wd_501, wd_441, wd_82, wd_442⟩ (by decide +kernel) rfl ⟨rfl, rfl⟩ ⟨Nat.le_of_ble_eq_true rfl, Nat.le_of_ble_eq_true rfl⟩ (Nat.le_of_ble_eq_true rfl) ⟨Nat.le_of_ble_eq_true rfl, Nat.le_of_ble_eq_true rfl⟩ dX10_begin_41 rfl (fun H locs G => ?_)
  refine lv_aload_n hx hb dX10_begin_44 rfl (lv_at hl 1 rfl) ?_
  refine gf_X10_49 C G hk1 (n' := (n1 + 3)) rfl dX10_begin_45 ?_
  refine lv_iconst (v := 0) hx hb dX10_begin_48 (by decide) ?_
  refine lv_aload_n hx hb dX10_begin_49 rfl (lv_at hl 0 rfl) ?_
  refine gf_X10_18 C G hk0 (n' := (n0 + 3)) rfl dX10_begin_50 ?_
  refine lv_iconst (v := 0) hx hb dX10_begin_53 (by decide) ?_
  refine lv_bipush (v := 7) hx hb dX10_begin_54 (by decide) ?_
  obtain ⟨g_8, hs⟩ := gdE hs
  refine m_copy C G hl.1 (kH3 hk1) (kS3 hk0) (lH3 hk1) (lS3 hk0) wd_502 g_8 hs (Nat.le_of_ble_eq_true rfl) (Nat.le_of_ble_eq_true rfl) dX10_begin_56 (fun σ_8 H locs hs G => ?_)
  refine lv_aload_n hx hb dX10_begin_59 rfl (lv_at hl 1 rfl) ?_
  refine gf_X10_56 C G hk1 (n' := (n1 + 5)) rfl dX10_begin_60 ?_
  refine lv_iconst (v := 0) hx hb dX10_begin_63 (by decide) ?_
  refine lv_aload_n hx hb dX10_begin_64 rfl (lv_at hl 0 rfl) ?_
  refine gf_X10_21 C G hk0 (n' := (n0 + 4)) rfl dX10_begin_65 ?_
  refine lv_iconst (v := 0) hx hb dX10_begin_68 (by decide) ?_
  refine lv_iconst (v := 4) hx hb dX10_begin_69 (by decide) ?_
  obtain ⟨g_9, hs⟩ := gdE hs
  refine m_copy C G hl.1 (kH5 hk1) (kS4 hk0) (lH5 hk1) (lS4 hk0) wd_502 g_9 hs (Nat.le_of_ble_eq_true rfl) (Nat.le_of_ble_eq_true rfl) dX10_begin_70 (fun σ_9 H locs hs G => ?_)
  exact retV C G hs dX10_begin_73
-- X11_feed
def rmX11_feed : Room := { frames := 1, cells := 0, slots := 0, locals := 21 }
def fX11_feed_11 (σ : Sg) : Option (Int32 × Sg) :=
  some ((-1000000002), σ)
set_option maxRecDepth 100000 in
set_option maxHeartbeats 4000000 in
theorem wX11_feed_11 {p : Program} {l : Launch} {e : Env} {s : State} {m : MethodId} {args : Array Value} {below : List Frame} {meth : Method} {c : Code} {D : va_G} {cI cZ cO : ClassId} {b : Nat} (C : Cx p s m args meth c cX11_feed RX11 2 (some .int) D cI cZ cO) {Rr : (Int32 × Sg)} {σ : Sg} {H : Heap} {locs : List Loc} {ls : Array Slot} (hs : fX11_feed_11 σ = some Rr) (G : Gd b D cI cZ cO σ s.heap H locs) (hl : lv_has ls 2 []) : W p l e rmX11_feed s m args below meth c H locs 0 0 (MQ below (QI b D cI cZ cO Rr) args s 0 0 (fun q => b ≤ q)) (F0 m 11 ls []) := by
  have hx := C.1
  have hb := C.2.1
  unfold fX11_feed_11 at hs
  refine m_ldc C wd_422 dX11_feed_11 ?_
  exact retI C G hs dX11_feed_13
def fX11_feed (σ : Sg) (x1 : Int32) : Option (Int32 × Sg) :=
  (if x1 < 0 then fX11_feed_11 σ else (if x1 ≤ 255 then (if (σ 1 1) < 240 then bv (fX8_append σ x1) (fun σ_4 => some ((σ_4 1 1), σ_4)) else some ((-1000000004), σ)) else fX11_feed_11 σ))
set_option maxRecDepth 100000 in
set_option maxHeartbeats 4000000 in
theorem ctX11_feed (l : Launch) {D : va_G} {cI cZ cO : ClassId} {b : Nat} {σ : Sg} {x1 : Int32} {Rr : (Int32 × Sg)} (hs : fX11_feed σ x1 = some Rr) : MI l yX11_feed cX11_feed 2 (some .int) rmX11_feed [.ref (b + 0), .int x1] b D cI cZ cO σ Rr := by
  unfold fX11_feed at hs
  refine metI (by decide +kernel) (Nat.le_of_ble_eq_true rfl) (fun p e s m below meth c ls C G hl => ?_)
  have C : Cx p s m _ meth c cX11_feed RX11 2 (some .int) D cI cZ cO := C
  have hx := C.1
  have hb := C.2.1
  have hl : lv_has ls 2 [(0, .ref (b + 0)), (1, .int x1)] := hl
  refine lv_iload_n hx hb dX11_feed_0 rfl (lv_at hl 1 rfl) ?_
  refine lv_if_lt (tgt := 11) hx hb dX11_feed_1 (by decide) (fun c_1 => ?_) (fun c_1 => ?_)
  · replace hs := ifT c_1 hs
    exact wX11_feed_11 C   hs G (lv_sub hl [] rfl)
  · replace hs := ifF c_1 hs
    refine lv_iload_n hx hb dX11_feed_4 rfl (lv_at hl 1 rfl) ?_
    refine lv_sipush (v := 255) hx hb dX11_feed_5 (by decide) ?_
    refine lv_icmp_le (tgt := 14) hx hb dX11_feed_8 (by decide) (fun c_2 => ?_) (fun c_2 => ?_)
    · replace hs := ifT c_2 hs
      refine lv_aload_n hx hb dX11_feed_14 rfl (lv_at hl 0 rfl) ?_
      refine gf_X11_10 C G kd_0 (n' := 1) rfl dX11_feed_15 ?_
      refine gf_X11_73 C G kd_1 dX11_feed_18 ?_
      refine lv_sipush (v := 240) hx hb dX11_feed_21 (by decide) ?_
      refine lv_icmp_lt (tgt := 30) hx hb dX11_feed_24 (by decide) (fun c_3 => ?_) (fun c_3 => ?_)
      · replace hs := ifT c_3 hs
        refine lv_aload_n hx hb dX11_feed_30 rfl (lv_at hl 0 rfl) ?_
        refine gf_X11_10 C G kd_0 (n' := 1) rfl dX11_feed_31 ?_
        refine lv_iload_n hx hb dX11_feed_34 rfl (lv_at hl 1 rfl) ?_
        obtain ⟨σ_4, hc, hs⟩ := bvE hs
        refine callVV (ar := 1) (As := [.int x1]) (rest := []) C G hl.1 (ctX8_append _  hc) ⟨wd_424, wd_425, wd_426, wd_70, wd_427⟩ (by decide +kernel) rfl ⟨rfl, rfl⟩ ⟨Nat.le_of_ble_eq_true rfl, Nat.le_of_ble_eq_true rfl⟩ (kd_lt kd_1 (by decide)) (ent_8 b cI cZ cO _ kd_1) rfl (Nat.le_of_ble_eq_true rfl) ⟨Nat.le_of_ble_eq_true rfl, Nat.le_of_ble_eq_true rfl⟩ dX11_feed_35 rfl (fun H locs G => ?_)
        refine lv_aload_n hx hb dX11_feed_38 rfl (lv_at hl 0 rfl) ?_
        refine gf_X11_10 C G kd_0 (n' := 1) rfl dX11_feed_39 ?_
        refine gf_X11_73 C G kd_1 dX11_feed_42 ?_
        exact retI C G hs dX11_feed_45
      · replace hs := ifF c_3 hs
        refine m_ldc C wd_423 dX11_feed_27 ?_
        exact retI C G hs dX11_feed_29
    · replace hs := ifF c_2 hs
      exact wX11_feed_11 C   hs G (lv_sub hl [] rfl)
-- X11_hills
def rmX11_hills : Room := { frames := 6, cells := 0, slots := 0, locals := 134 }
def fX11_hills (σ : Sg) : Option (Int32 × Sg) :=
  gk 4 (dn (σ 0 8)) (fun n_1 => bv (fX8_read n_1 σ) (fun σ_2 => (if (σ_2 1 2) = 0 then gk 4 (dn (σ_2 3 0)) (fun n_4 => gk 4 (dn (σ_2 0 8)) (fun n_5 => lt (st σ_2 3 0 (nI n_5)) (fun σ_6 => lt (st σ_6 0 8 (nI n_4)) (fun σ_7 => gk 4 (dn (σ_7 3 0)) (fun n_8 => bv (fX10_begin 11 n_8 σ_7) (fun σ_9 => bv (fX7_forget σ_9) (fun σ_10 => bv (fX5_forget σ_10) (fun σ_11 => lt (st σ_11 114 0 0) (fun σ_12 => lt (st σ_12 117 0 0) (fun σ_13 => gk 4 (dn (σ_13 3 0)) (fun n_14 => some ((σ_13 n_14 4), σ_13)))))))))))) else some (((-10) - (σ_2 1 2)), σ_2))))
set_option maxRecDepth 100000 in
set_option maxHeartbeats 4000000 in
theorem ctX11_hills (l : Launch) {D : va_G} {cI cZ cO : ClassId} {b : Nat} {σ : Sg} {Rr : (Int32 × Sg)} (hs : fX11_hills σ = some Rr) : MI l yX11_hills cX11_hills 2 (some .int) rmX11_hills [.ref (b + 0)] b D cI cZ cO σ Rr := by
  unfold fX11_hills at hs
  refine metI (by decide +kernel) (Nat.le_of_ble_eq_true rfl) (fun p e s m below meth c ls C G hl => ?_)
  have C : Cx p s m _ meth c cX11_hills RX11 2 (some .int) D cI cZ cO := C
  have hx := C.1
  have hb := C.2.1
  have hl : lv_has ls 2 [(0, .ref (b + 0))] := hl
  refine lv_aload_n hx hb dX11_hills_0 rfl (lv_at hl 0 rfl) ?_
  refine gf_X11_10 C G kd_0 (n' := 1) rfl dX11_hills_1 ?_
  refine lv_aload_n hx hb dX11_hills_4 rfl (lv_at hl 0 rfl) ?_
  obtain ⟨n_1, en_1, hk_1, hs⟩ := gkE hs
  refine gf_X11_68 C G kd_0 en_1 dX11_hills_5 ?_
  obtain ⟨σ_2, hc, hs⟩ := bvE hs
  refine callVV (ar := 1) (As := [.ref (b + n_1)]) (rest := []) C G hl.1 (ctX8_read _ hk_1 hc) ⟨wd_432, wd_433, wd_434, wd_70, wd_435⟩ (by decide +kernel) rfl ⟨rfl, rfl⟩ ⟨Nat.le_of_ble_eq_true rfl, Nat.le_of_ble_eq_true rfl⟩ (kd_lt kd_1 (by decide)) (ent_8 b cI cZ cO _ kd_1) rfl (Nat.le_of_ble_eq_true rfl) ⟨Nat.le_of_ble_eq_true rfl, Nat.le_of_ble_eq_true rfl⟩ dX11_hills_8 rfl (fun H locs G => ?_)
  refine lv_aload_n hx hb dX11_hills_11 rfl (lv_at hl 0 rfl) ?_
  refine gf_X11_10 C G kd_0 (n' := 1) rfl dX11_hills_12 ?_
  refine gf_X11_86 C G kd_1 dX11_hills_15 ?_
  refine lv_if_eq (tgt := 32) hx hb dX11_hills_18 (by decide) (fun c_3 => ?_) (fun c_3 => ?_)
  · replace hs := ifT c_3 hs
    refine lv_aload_n hx hb dX11_hills_32 rfl (lv_at hl 0 rfl) ?_
    refine gf_X11_19 C G kd_0 (n' := 3) rfl dX11_hills_33 ?_
    obtain ⟨n_4, en_4, hk_4, hs⟩ := gkE hs
    refine gf_X11_89 C G kd_3 en_4 dX11_hills_36 ?_
    refine lv_astore_n (lv' := [(1, .ref (b + n_4)), (0, .ref (b + 0))]) hx hb dX11_hills_39 rfl hl (by decide) rfl (fun ls hl => ?_)
    refine lv_aload_n hx hb dX11_hills_40 rfl (lv_at hl 1 rfl) ?_
    refine gf_X11_19 C G kd_0 (n' := 3) rfl dX11_hills_41 ?_
    refine lv_aload_n hx hb dX11_hills_44 rfl (lv_at hl 1 rfl) ?_
    obtain ⟨n_5, en_5, hk_5, hs⟩ := gkE hs
    refine gf_X11_68 C G kd_0 en_5 dX11_hills_45 ?_
    refine pf_X11_89 C G kd_3 (kd_lt hk_5 (by decide)) hs dX11_hills_48 (fun σ_6 H locs hs G => ?_)
    refine lv_aload_n hx hb dX11_hills_51 rfl (lv_at hl 1 rfl) ?_
    refine lv_aload_n hx hb dX11_hills_52 rfl (lv_at hl 0 rfl) ?_
    refine pf_X11_68 C G kd_0 (kd_lt hk_4 (by decide)) hs dX11_hills_53 (fun σ_7 H locs hs G => ?_)
    refine lv_aload_n hx hb dX11_hills_56 rfl (lv_at hl 1 rfl) ?_
    refine gf_X11_19 C G kd_0 (n' := 3) rfl dX11_hills_57 ?_
    refine gf_X11_92 C G kd_3 (n' := 11) rfl dX11_hills_60 ?_
    refine lv_aload_n hx hb dX11_hills_63 rfl (lv_at hl 1 rfl) ?_
    refine gf_X11_19 C G kd_0 (n' := 3) rfl dX11_hills_64 ?_
    obtain ⟨n_8, en_8, hk_8, hs⟩ := gkE hs
    refine gf_X11_89 C G kd_3 en_8 dX11_hills_67 ?_
    obtain ⟨σ_9, hc, hs⟩ := bvE hs
    refine callVV (ar := 1) (As := [.ref (b + n_8)]) (rest := []) C G hl.1 (ctX10_begin _ kd_11 hk_8 hc) ⟨wd_497, wd_498, wd_499, wd_73, wd_500⟩ (by decide +kernel) rfl ⟨rfl, rfl⟩ ⟨Nat.le_of_ble_eq_true rfl, Nat.le_of_ble_eq_true rfl⟩ (kd_lt kd_11 (by decide)) (ent_10 b cI cZ cO _ kd_11) rfl (Nat.le_of_ble_eq_true rfl) ⟨Nat.le_of_ble_eq_true rfl, Nat.le_of_ble_eq_true rfl⟩ dX11_hills_70 rfl (fun H locs G => ?_)
    refine lv_aload_n hx hb dX11_hills_73 rfl (lv_at hl 1 rfl) ?_
    refine gf_X11_26 C G kd_0 (n' := 17) rfl dX11_hills_74 ?_
    obtain ⟨σ_10, hc, hs⟩ := bvE hs
    refine callVV (ar := 0) (As := []) (rest := []) C G hl.1 (ctX7_forget _  hc) ⟨wd_505, wd_506, wd_507, wd_75, wd_508⟩ (by decide +kernel) rfl ⟨rfl, rfl⟩ ⟨Nat.le_of_ble_eq_true rfl, Nat.le_of_ble_eq_true rfl⟩ (kd_lt kd_17 (by decide)) (ent_7 b cI cZ cO _ kd_17) rfl (Nat.le_of_ble_eq_true rfl) ⟨Nat.le_of_ble_eq_true rfl, Nat.le_of_ble_eq_true rfl⟩ dX11_hills_77 rfl (fun H locs G => ?_)
    refine lv_aload_n hx hb dX11_hills_80 rfl (lv_at hl 1 rfl) ?_
    refine gf_X11_33 C G kd_0 (n' := 99) rfl dX11_hills_81 ?_
    obtain ⟨σ_11, hc, hs⟩ := bvE hs
    refine callVV (ar := 0) (As := []) (rest := []) C G hl.1 (ctX5_forget _  hc) ⟨wd_509, wd_510, wd_511, wd_76, wd_512⟩ (by decide +kernel) rfl ⟨rfl, rfl⟩ ⟨Nat.le_of_ble_eq_true rfl, Nat.le_of_ble_eq_true rfl⟩ (kd_lt kd_99 (by decide)) (ent_5 b cI cZ cO _ kd_99) rfl (Nat.le_of_ble_eq_true rfl) ⟨Nat.le_of_ble_eq_true rfl, Nat.le_of_ble_eq_true rfl⟩ dX11_hills_84 rfl (fun H locs G => ?_)
    refine lv_aload_n hx hb dX11_hills_87 rfl (lv_at hl 1 rfl) ?_
    refine gf_X11_47 C G kd_0 (n' := 114) rfl dX11_hills_88 ?_
    refine lv_iconst (v := 0) hx hb dX11_hills_91 (by decide) ?_
    refine pf_X11_105 C G kd_114 hs dX11_hills_92 (fun σ_12 H locs hs G => ?_)
    refine lv_aload_n hx hb dX11_hills_95 rfl (lv_at hl 1 rfl) ?_
    refine gf_X11_54 C G kd_0 (n' := 117) rfl dX11_hills_96 ?_
    refine lv_iconst (v := 0) hx hb dX11_hills_99 (by decide) ?_
    refine pf_X11_108 C G kd_117 hs dX11_hills_100 (fun σ_13 H locs hs G => ?_)
    refine lv_aload_n hx hb dX11_hills_103 rfl (lv_at hl 1 rfl) ?_
    refine gf_X11_19 C G kd_0 (n' := 3) rfl dX11_hills_104 ?_
    obtain ⟨n_14, en_14, hk_14, hs⟩ := gkE hs
    refine gf_X11_89 C G kd_3 en_14 dX11_hills_107 ?_
    refine gf_X11_109 C G hk_14 dX11_hills_110 ?_
    exact retI C G hs dX11_hills_113
  · replace hs := ifF c_3 hs
    refine lv_bipush (v := (-10)) hx hb dX11_hills_21 (by decide) ?_
    refine lv_aload_n hx hb dX11_hills_23 rfl (lv_at hl 0 rfl) ?_
    refine gf_X11_10 C G kd_0 (n' := 1) rfl dX11_hills_24 ?_
    refine gf_X11_86 C G kd_1 dX11_hills_27 ?_
    refine lv_isub hx hb dX11_hills_30 ?_
    exact retI C G hs dX11_hills_31
-- X11_fault
def rmX11_fault : Room := { frames := 0, cells := 0, slots := 0, locals := 0 }
def fX11_fault (σ : Sg) : Option (Int32 × Sg) :=
  some ((σ 1 3), σ)
set_option maxRecDepth 100000 in
set_option maxHeartbeats 4000000 in
theorem ctX11_fault (l : Launch) {D : va_G} {cI cZ cO : ClassId} {b : Nat} {σ : Sg} {Rr : (Int32 × Sg)} (hs : fX11_fault σ = some Rr) : MI l yX11_fault cX11_fault 1 (some .int) rmX11_fault [.ref (b + 0)] b D cI cZ cO σ Rr := by
  unfold fX11_fault at hs
  refine metI (by decide +kernel) (Nat.le_of_ble_eq_true rfl) (fun p e s m below meth c ls C G hl => ?_)
  have C : Cx p s m _ meth c cX11_fault RX11 1 (some .int) D cI cZ cO := C
  have hx := C.1
  have hb := C.2.1
  have hl : lv_has ls 1 [(0, .ref (b + 0))] := hl
  refine lv_aload_n hx hb dX11_fault_0 rfl (lv_at hl 0 rfl) ?_
  refine gf_X11_10 C G kd_0 (n' := 1) rfl dX11_fault_1 ?_
  refine gf_X11_112 C G kd_1 dX11_fault_4 ?_
  exact retI C G hs dX11_fault_7
-- X11_told
def rmX11_told : Room := { frames := 5, cells := 0, slots := 0, locals := 118 }
def fX11_told (σ : Sg) (x1 : Int32) : Option (Int32 × Sg) :=
  (if x1 = 0 then some ((σ 11 0), σ) else (if x1 = 1 then gk 4 (dn (σ 3 0)) (fun n_2 => some ((σ n_2 2), σ)) else (if x1 = 2 then gk 4 (dn (σ 3 0)) (fun n_3 => some ((σ n_3 3), σ)) else (if x1 = 3 then gk 4 (dn (σ 3 0)) (fun n_4 => some ((σ n_4 4), σ)) else (if x1 = 4 then some ((σ 1 1), σ) else (if x1 = 5 then some ((σ 11 2), σ) else (if x1 = 6 then some ((σ 11 1), σ) else (if x1 = 7 then bi (fX2_fateful σ) (fun r_5 σ_5 => some (r_5, σ_5)) else (if x1 = 8 then bi (fX2_untold σ) (fun r_6 σ_6 => some (r_6, σ_6)) else (if x1 = 9 then some ((σ 11 4), σ) else (if x1 = 10 then bi (fX2_isBorne σ) (fun r_7 σ_7 => (if r_7 = 0 then some (0, σ_7) else some (1, σ_7))) else (if x1 = 11 then bi (fX2_madeUp σ) (fun r_9 σ_9 => some (r_9, σ_9)) else (if x1 = 12 then bi (fX2_worst σ) (fun r_10 σ_10 => some (r_10, σ_10)) else (if x1 = 13 then some ((σ 114 0), σ) else (if x1 = 14 then gk 4 (dn (σ 3 0)) (fun n_11 => bi (fX9_countSets n_11 σ) (fun r_12 σ_12 => some (r_12, σ_12))) else (if x1 = 15 then gk 4 (dn (σ 3 0)) (fun n_13 => bi (fX9_inEach n_13 σ) (fun r_14 σ_14 => some (r_14, σ_14))) else (if x1 = 16 then gk 4 (dn (σ 3 0)) (fun n_15 => bi (fX9_ask n_15 σ) (fun r_16 σ_16 => some (r_16, σ_16))) else (if x1 = 17 then some ((σ 117 0), σ) else (if x1 = 18 then some ((σ 17 0), σ) else some ((-1000000002), σ))))))))))))))))))))
set_option maxRecDepth 100000 in
set_option maxHeartbeats 4000000 in
theorem ctX11_told (l : Launch) {D : va_G} {cI cZ cO : ClassId} {b : Nat} {σ : Sg} {x1 : Int32} {Rr : (Int32 × Sg)} (hs : fX11_told σ x1 = some Rr) : MI l yX11_told cX11_told 3 (some .int) rmX11_told [.ref (b + 0), .int x1] b D cI cZ cO σ Rr := by
  unfold fX11_told at hs
  refine metI (by decide +kernel) (Nat.le_of_ble_eq_true rfl) (fun p e s m below meth c ls C G hl => ?_)
  have C : Cx p s m _ meth c cX11_told RX11 3 (some .int) D cI cZ cO := C
  have hx := C.1
  have hb := C.2.1
  have hl : lv_has ls 3 [(0, .ref (b + 0)), (1, .int x1)] := hl
  refine lv_aload_n hx hb dX11_told_0 rfl (lv_at hl 0 rfl) ?_
  refine gf_X11_19 C G kd_0 (n' := 3) rfl dX11_told_1 ?_
  refine gf_X11_92 C G kd_3 (n' := 11) rfl dX11_told_4 ?_
  refine lv_astore_n (lv' := [(2, .ref (b + 11)), (0, .ref (b + 0)), (1, .int x1)]) hx hb dX11_told_7 rfl hl (by decide) rfl (fun ls hl => ?_)
  refine lv_iload_n hx hb dX11_told_8 rfl (lv_at hl 2 rfl) ?_
  by_cases c_1_0 : x1 = 0
  · replace hs := ifT c_1_0 hs
    refine lv_tableIn (tgt := 100) hx hb dX11_told_9 (by rw [c_1_0]; decide) (by rw [c_1_0]; decide) (by rw [c_1_0]; rfl) (by decide) ?_
    refine lv_aload_n hx hb dX11_told_100 rfl (lv_at hl 0 rfl) ?_
    refine gf_X11_115 C G kd_11 dX11_told_101 ?_
    exact retI C G hs dX11_told_104
  · replace hs := ifF c_1_0 hs
    by_cases c_1_1 : x1 = 1
    · replace hs := ifT c_1_1 hs
      refine lv_tableIn (tgt := 105) hx hb dX11_told_9 (by rw [c_1_1]; decide) (by rw [c_1_1]; decide) (by rw [c_1_1]; rfl) (by decide) ?_
      refine lv_aload_n hx hb dX11_told_105 rfl (lv_at hl 1 rfl) ?_
      refine gf_X11_19 C G kd_0 (n' := 3) rfl dX11_told_106 ?_
      obtain ⟨n_2, en_2, hk_2, hs⟩ := gkE hs
      refine gf_X11_89 C G kd_3 en_2 dX11_told_109 ?_
      refine gf_X11_118 C G hk_2 dX11_told_112 ?_
      exact retI C G hs dX11_told_115
    · replace hs := ifF c_1_1 hs
      by_cases c_1_2 : x1 = 2
      · replace hs := ifT c_1_2 hs
        refine lv_tableIn (tgt := 116) hx hb dX11_told_9 (by rw [c_1_2]; decide) (by rw [c_1_2]; decide) (by rw [c_1_2]; rfl) (by decide) ?_
        refine lv_aload_n hx hb dX11_told_116 rfl (lv_at hl 1 rfl) ?_
        refine gf_X11_19 C G kd_0 (n' := 3) rfl dX11_told_117 ?_
        obtain ⟨n_3, en_3, hk_3, hs⟩ := gkE hs
        refine gf_X11_89 C G kd_3 en_3 dX11_told_120 ?_
        refine gf_X11_121 C G hk_3 dX11_told_123 ?_
        exact retI C G hs dX11_told_126
      · replace hs := ifF c_1_2 hs
        by_cases c_1_3 : x1 = 3
        · replace hs := ifT c_1_3 hs
          refine lv_tableIn (tgt := 127) hx hb dX11_told_9 (by rw [c_1_3]; decide) (by rw [c_1_3]; decide) (by rw [c_1_3]; rfl) (by decide) ?_
          refine lv_aload_n hx hb dX11_told_127 rfl (lv_at hl 1 rfl) ?_
          refine gf_X11_19 C G kd_0 (n' := 3) rfl dX11_told_128 ?_
          obtain ⟨n_4, en_4, hk_4, hs⟩ := gkE hs
          refine gf_X11_89 C G kd_3 en_4 dX11_told_131 ?_
          refine gf_X11_109 C G hk_4 dX11_told_134 ?_
          exact retI C G hs dX11_told_137
        · replace hs := ifF c_1_3 hs
          by_cases c_1_4 : x1 = 4
          · replace hs := ifT c_1_4 hs
            refine lv_tableIn (tgt := 138) hx hb dX11_told_9 (by rw [c_1_4]; decide) (by rw [c_1_4]; decide) (by rw [c_1_4]; rfl) (by decide) ?_
            refine lv_aload_n hx hb dX11_told_138 rfl (lv_at hl 1 rfl) ?_
            refine gf_X11_10 C G kd_0 (n' := 1) rfl dX11_told_139 ?_
            refine gf_X11_73 C G kd_1 dX11_told_142 ?_
            exact retI C G hs dX11_told_145
          · replace hs := ifF c_1_4 hs
            by_cases c_1_5 : x1 = 5
            · replace hs := ifT c_1_5 hs
              refine lv_tableIn (tgt := 146) hx hb dX11_told_9 (by rw [c_1_5]; decide) (by rw [c_1_5]; decide) (by rw [c_1_5]; rfl) (by decide) ?_
              refine lv_aload_n hx hb dX11_told_146 rfl (lv_at hl 0 rfl) ?_
              refine gf_X11_124 C G kd_11 dX11_told_147 ?_
              exact retI C G hs dX11_told_150
            · replace hs := ifF c_1_5 hs
              by_cases c_1_6 : x1 = 6
              · replace hs := ifT c_1_6 hs
                refine lv_tableIn (tgt := 151) hx hb dX11_told_9 (by rw [c_1_6]; decide) (by rw [c_1_6]; decide) (by rw [c_1_6]; rfl) (by decide) ?_
                refine lv_aload_n hx hb dX11_told_151 rfl (lv_at hl 0 rfl) ?_
                refine gf_X11_127 C G kd_11 dX11_told_152 ?_
                exact retI C G hs dX11_told_155
              · replace hs := ifF c_1_6 hs
                by_cases c_1_7 : x1 = 7
                · replace hs := ifT c_1_7 hs
                  refine lv_tableIn (tgt := 156) hx hb dX11_told_9 (by rw [c_1_7]; decide) (by rw [c_1_7]; decide) (by rw [c_1_7]; rfl) (by decide) ?_
                  refine lv_aload_n hx hb dX11_told_156 rfl (lv_at hl 1 rfl) ?_
                  refine gf_X11_19 C G kd_0 (n' := 3) rfl dX11_told_157 ?_
                  obtain ⟨r_5, σ_5, hc, hs⟩ := biE hs
                  refine callVI (ar := 0) (As := []) (rest := []) C G hl.1 (ctX2_fateful _  hc) ⟨wd_521, wd_522, wd_523, wd_71, wd_524⟩ (by decide +kernel) rfl ⟨rfl, rfl⟩ ⟨Nat.le_of_ble_eq_true rfl, Nat.le_of_ble_eq_true rfl⟩ (kd_lt kd_3 (by decide)) (ent_2 b cI cZ cO _ kd_3) rfl (Nat.le_of_ble_eq_true rfl) ⟨Nat.le_of_ble_eq_true rfl, Nat.le_of_ble_eq_true rfl⟩ dX11_told_160 rfl (fun H locs G => ?_)
                  exact retI C G hs dX11_told_163
                · replace hs := ifF c_1_7 hs
                  by_cases c_1_8 : x1 = 8
                  · replace hs := ifT c_1_8 hs
                    refine lv_tableIn (tgt := 164) hx hb dX11_told_9 (by rw [c_1_8]; decide) (by rw [c_1_8]; decide) (by rw [c_1_8]; rfl) (by decide) ?_
                    refine lv_aload_n hx hb dX11_told_164 rfl (lv_at hl 1 rfl) ?_
                    refine gf_X11_19 C G kd_0 (n' := 3) rfl dX11_told_165 ?_
                    obtain ⟨r_6, σ_6, hc, hs⟩ := biE hs
                    refine callVI (ar := 0) (As := []) (rest := []) C G hl.1 (ctX2_untold _  hc) ⟨wd_525, wd_526, wd_527, wd_71, wd_528⟩ (by decide +kernel) rfl ⟨rfl, rfl⟩ ⟨Nat.le_of_ble_eq_true rfl, Nat.le_of_ble_eq_true rfl⟩ (kd_lt kd_3 (by decide)) (ent_2 b cI cZ cO _ kd_3) rfl (Nat.le_of_ble_eq_true rfl) ⟨Nat.le_of_ble_eq_true rfl, Nat.le_of_ble_eq_true rfl⟩ dX11_told_168 rfl (fun H locs G => ?_)
                    exact retI C G hs dX11_told_171
                  · replace hs := ifF c_1_8 hs
                    by_cases c_1_9 : x1 = 9
                    · replace hs := ifT c_1_9 hs
                      refine lv_tableIn (tgt := 172) hx hb dX11_told_9 (by rw [c_1_9]; decide) (by rw [c_1_9]; decide) (by rw [c_1_9]; rfl) (by decide) ?_
                      refine lv_aload_n hx hb dX11_told_172 rfl (lv_at hl 0 rfl) ?_
                      refine gf_X11_137 C G kd_11 dX11_told_173 ?_
                      exact retI C G hs dX11_told_176
                    · replace hs := ifF c_1_9 hs
                      by_cases c_1_10 : x1 = 10
                      · replace hs := ifT c_1_10 hs
                        refine lv_tableIn (tgt := 177) hx hb dX11_told_9 (by rw [c_1_10]; decide) (by rw [c_1_10]; decide) (by rw [c_1_10]; rfl) (by decide) ?_
                        refine lv_aload_n hx hb dX11_told_177 rfl (lv_at hl 1 rfl) ?_
                        refine gf_X11_19 C G kd_0 (n' := 3) rfl dX11_told_178 ?_
                        obtain ⟨r_7, σ_7, hc, hs⟩ := biE hs
                        refine callVI (ar := 0) (As := []) (rest := []) C G hl.1 (ctX2_isBorne _  hc) ⟨wd_533, wd_534, wd_535, wd_71, wd_536⟩ (by decide +kernel) rfl ⟨rfl, rfl⟩ ⟨Nat.le_of_ble_eq_true rfl, Nat.le_of_ble_eq_true rfl⟩ (kd_lt kd_3 (by decide)) (ent_2 b cI cZ cO _ kd_3) rfl (Nat.le_of_ble_eq_true rfl) ⟨Nat.le_of_ble_eq_true rfl, Nat.le_of_ble_eq_true rfl⟩ dX11_told_181 rfl (fun H locs G => ?_)
                        refine lv_if_eq (tgt := 191) hx hb dX11_told_184 (by decide) (fun c_8 => ?_) (fun c_8 => ?_)
                        · replace hs := ifT c_8 hs
                          refine lv_iconst (v := 0) hx hb dX11_told_191 (by decide) ?_
                          exact retI C G hs dX11_told_192
                        · replace hs := ifF c_8 hs
                          refine lv_iconst (v := 1) hx hb dX11_told_187 (by decide) ?_
                          refine lv_goto (tgt := 192) hx hb dX11_told_188 (by decide) ?_
                          exact retI C G hs dX11_told_192
                      · replace hs := ifF c_1_10 hs
                        by_cases c_1_11 : x1 = 11
                        · replace hs := ifT c_1_11 hs
                          refine lv_tableIn (tgt := 193) hx hb dX11_told_9 (by rw [c_1_11]; decide) (by rw [c_1_11]; decide) (by rw [c_1_11]; rfl) (by decide) ?_
                          refine lv_aload_n hx hb dX11_told_193 rfl (lv_at hl 1 rfl) ?_
                          refine gf_X11_19 C G kd_0 (n' := 3) rfl dX11_told_194 ?_
                          obtain ⟨r_9, σ_9, hc, hs⟩ := biE hs
                          refine callVI (ar := 0) (As := []) (rest := []) C G hl.1 (ctX2_madeUp _  hc) ⟨wd_546, wd_547, wd_548, wd_71, wd_549⟩ (by decide +kernel) rfl ⟨rfl, rfl⟩ ⟨Nat.le_of_ble_eq_true rfl, Nat.le_of_ble_eq_true rfl⟩ (kd_lt kd_3 (by decide)) (ent_2 b cI cZ cO _ kd_3) rfl (Nat.le_of_ble_eq_true rfl) ⟨Nat.le_of_ble_eq_true rfl, Nat.le_of_ble_eq_true rfl⟩ dX11_told_197 rfl (fun H locs G => ?_)
                          exact retI C G hs dX11_told_200
                        · replace hs := ifF c_1_11 hs
                          by_cases c_1_12 : x1 = 12
                          · replace hs := ifT c_1_12 hs
                            refine lv_tableIn (tgt := 201) hx hb dX11_told_9 (by rw [c_1_12]; decide) (by rw [c_1_12]; decide) (by rw [c_1_12]; rfl) (by decide) ?_
                            refine lv_aload_n hx hb dX11_told_201 rfl (lv_at hl 1 rfl) ?_
                            refine gf_X11_19 C G kd_0 (n' := 3) rfl dX11_told_202 ?_
                            obtain ⟨r_10, σ_10, hc, hs⟩ := biE hs
                            refine callVI (ar := 0) (As := []) (rest := []) C G hl.1 (ctX2_worst _  hc) ⟨wd_550, wd_551, wd_552, wd_71, wd_553⟩ (by decide +kernel) rfl ⟨rfl, rfl⟩ ⟨Nat.le_of_ble_eq_true rfl, Nat.le_of_ble_eq_true rfl⟩ (kd_lt kd_3 (by decide)) (ent_2 b cI cZ cO _ kd_3) rfl (Nat.le_of_ble_eq_true rfl) ⟨Nat.le_of_ble_eq_true rfl, Nat.le_of_ble_eq_true rfl⟩ dX11_told_205 rfl (fun H locs G => ?_)
                            exact retI C G hs dX11_told_208
                          · replace hs := ifF c_1_12 hs
                            by_cases c_1_13 : x1 = 13
                            · replace hs := ifT c_1_13 hs
                              refine lv_tableIn (tgt := 209) hx hb dX11_told_9 (by rw [c_1_13]; decide) (by rw [c_1_13]; decide) (by rw [c_1_13]; rfl) (by decide) ?_
                              refine lv_aload_n hx hb dX11_told_209 rfl (lv_at hl 1 rfl) ?_
                              refine gf_X11_47 C G kd_0 (n' := 114) rfl dX11_told_210 ?_
                              refine gf_X11_105 C G kd_114 dX11_told_213 ?_
                              exact retI C G hs dX11_told_216
                            · replace hs := ifF c_1_13 hs
                              by_cases c_1_14 : x1 = 14
                              · replace hs := ifT c_1_14 hs
                                refine lv_tableIn (tgt := 217) hx hb dX11_told_9 (by rw [c_1_14]; decide) (by rw [c_1_14]; decide) (by rw [c_1_14]; rfl) (by decide) ?_
                                refine lv_aload_n hx hb dX11_told_217 rfl (lv_at hl 1 rfl) ?_
                                refine gf_X11_47 C G kd_0 (n' := 114) rfl dX11_told_218 ?_
                                refine lv_aload_n hx hb dX11_told_221 rfl (lv_at hl 1 rfl) ?_
                                refine gf_X11_19 C G kd_0 (n' := 3) rfl dX11_told_222 ?_
                                obtain ⟨n_11, en_11, hk_11, hs⟩ := gkE hs
                                refine gf_X11_89 C G kd_3 en_11 dX11_told_225 ?_
                                obtain ⟨r_12, σ_12, hc, hs⟩ := biE hs
                                refine callVI (ar := 1) (As := [.ref (b + n_11)]) (rest := []) C G hl.1 (ctX9_countSets _ hk_11 hc) ⟨wd_554, wd_555, wd_556, wd_78, wd_557⟩ (by decide +kernel) rfl ⟨rfl, rfl⟩ ⟨Nat.le_of_ble_eq_true rfl, Nat.le_of_ble_eq_true rfl⟩ (kd_lt kd_114 (by decide)) (ent_9 b cI cZ cO _ kd_114) rfl (Nat.le_of_ble_eq_true rfl) ⟨Nat.le_of_ble_eq_true rfl, Nat.le_of_ble_eq_true rfl⟩ dX11_told_228 rfl (fun H locs G => ?_)
                                exact retI C G hs dX11_told_231
                              · replace hs := ifF c_1_14 hs
                                by_cases c_1_15 : x1 = 15
                                · replace hs := ifT c_1_15 hs
                                  refine lv_tableIn (tgt := 232) hx hb dX11_told_9 (by rw [c_1_15]; decide) (by rw [c_1_15]; decide) (by rw [c_1_15]; rfl) (by decide) ?_
                                  refine lv_aload_n hx hb dX11_told_232 rfl (lv_at hl 1 rfl) ?_
                                  refine gf_X11_47 C G kd_0 (n' := 114) rfl dX11_told_233 ?_
                                  refine lv_aload_n hx hb dX11_told_236 rfl (lv_at hl 1 rfl) ?_
                                  refine gf_X11_19 C G kd_0 (n' := 3) rfl dX11_told_237 ?_
                                  obtain ⟨n_13, en_13, hk_13, hs⟩ := gkE hs
                                  refine gf_X11_89 C G kd_3 en_13 dX11_told_240 ?_
                                  obtain ⟨r_14, σ_14, hc, hs⟩ := biE hs
                                  refine callVI (ar := 1) (As := [.ref (b + n_13)]) (rest := []) C G hl.1 (ctX9_inEach _ hk_13 hc) ⟨wd_573, wd_574, wd_575, wd_78, wd_576⟩ (by decide +kernel) rfl ⟨rfl, rfl⟩ ⟨Nat.le_of_ble_eq_true rfl, Nat.le_of_ble_eq_true rfl⟩ (kd_lt kd_114 (by decide)) (ent_9 b cI cZ cO _ kd_114) rfl (Nat.le_of_ble_eq_true rfl) ⟨Nat.le_of_ble_eq_true rfl, Nat.le_of_ble_eq_true rfl⟩ dX11_told_243 rfl (fun H locs G => ?_)
                                  exact retI C G hs dX11_told_246
                                · replace hs := ifF c_1_15 hs
                                  by_cases c_1_16 : x1 = 16
                                  · replace hs := ifT c_1_16 hs
                                    refine lv_tableIn (tgt := 247) hx hb dX11_told_9 (by rw [c_1_16]; decide) (by rw [c_1_16]; decide) (by rw [c_1_16]; rfl) (by decide) ?_
                                    refine lv_aload_n hx hb dX11_told_247 rfl (lv_at hl 1 rfl) ?_
                                    refine gf_X11_47 C G kd_0 (n' := 114) rfl dX11_told_248 ?_
                                    refine lv_aload_n hx hb dX11_told_251 rfl (lv_at hl 1 rfl) ?_
                                    refine gf_X11_19 C G kd_0 (n' := 3) rfl dX11_told_252 ?_
                                    obtain ⟨n_15, en_15, hk_15, hs⟩ := gkE hs
                                    refine gf_X11_89 C G kd_3 en_15 dX11_told_255 ?_
                                    obtain ⟨r_16, σ_16, hc, hs⟩ := biE hs
                                    refine callVI (ar := 1) (As := [.ref (b + n_15)]) (rest := []) C G hl.1 (ctX9_ask _ hk_15 hc) ⟨wd_577, wd_578, wd_579, wd_78, wd_580⟩ (by decide +kernel) rfl ⟨rfl, rfl⟩ ⟨Nat.le_of_ble_eq_true rfl, Nat.le_of_ble_eq_true rfl⟩ (kd_lt kd_114 (by decide)) (ent_9 b cI cZ cO _ kd_114) rfl (Nat.le_of_ble_eq_true rfl) ⟨Nat.le_of_ble_eq_true rfl, Nat.le_of_ble_eq_true rfl⟩ dX11_told_258 rfl (fun H locs G => ?_)
                                    exact retI C G hs dX11_told_261
                                  · replace hs := ifF c_1_16 hs
                                    by_cases c_1_17 : x1 = 17
                                    · replace hs := ifT c_1_17 hs
                                      refine lv_tableIn (tgt := 262) hx hb dX11_told_9 (by rw [c_1_17]; decide) (by rw [c_1_17]; decide) (by rw [c_1_17]; rfl) (by decide) ?_
                                      refine lv_aload_n hx hb dX11_told_262 rfl (lv_at hl 1 rfl) ?_
                                      refine gf_X11_54 C G kd_0 (n' := 117) rfl dX11_told_263 ?_
                                      refine gf_X11_108 C G kd_117 dX11_told_266 ?_
                                      exact retI C G hs dX11_told_269
                                    · replace hs := ifF c_1_17 hs
                                      by_cases c_1_18 : x1 = 18
                                      · replace hs := ifT c_1_18 hs
                                        refine lv_tableIn (tgt := 270) hx hb dX11_told_9 (by rw [c_1_18]; decide) (by rw [c_1_18]; decide) (by rw [c_1_18]; rfl) (by decide) ?_
                                        refine lv_aload_n hx hb dX11_told_270 rfl (lv_at hl 1 rfl) ?_
                                        refine gf_X11_26 C G kd_0 (n' := 17) rfl dX11_told_271 ?_
                                        refine gf_X11_160 C G kd_17 dX11_told_274 ?_
                                        exact retI C G hs dX11_told_277
                                      · replace hs := ifF c_1_18 hs
                                        refine lv_tableOut (tgt := 278) hx hb dX11_told_9 (by have t0 := tbl_ne c_1_0 (z := 0) (by decide); have t1 := tbl_ne c_1_1 (z := 1) (by decide); have t2 := tbl_ne c_1_2 (z := 2) (by decide); have t3 := tbl_ne c_1_3 (z := 3) (by decide); have t4 := tbl_ne c_1_4 (z := 4) (by decide); have t5 := tbl_ne c_1_5 (z := 5) (by decide); have t6 := tbl_ne c_1_6 (z := 6) (by decide); have t7 := tbl_ne c_1_7 (z := 7) (by decide); have t8 := tbl_ne c_1_8 (z := 8) (by decide); have t9 := tbl_ne c_1_9 (z := 9) (by decide); have t10 := tbl_ne c_1_10 (z := 10) (by decide); have t11 := tbl_ne c_1_11 (z := 11) (by decide); have t12 := tbl_ne c_1_12 (z := 12) (by decide); have t13 := tbl_ne c_1_13 (z := 13) (by decide); have t14 := tbl_ne c_1_14 (z := 14) (by decide); have t15 := tbl_ne c_1_15 (z := 15) (by decide); have t16 := tbl_ne c_1_16 (z := 16) (by decide); have t17 := tbl_ne c_1_17 (z := 17) (by decide); have t18 := tbl_ne c_1_18 (z := 18) (by decide); omega) (by decide) ?_
                                        refine m_ldc C wd_422 dX11_told_278 ?_
                                        exact retI C G hs dX11_told_280
