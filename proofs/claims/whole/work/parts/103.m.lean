-- X2_canTakeTogether
def rmX2_canTakeTogether : Room := { frames := 1, cells := 0, slots := 0, locals := 23 }
def fX2_canTakeTogether_4b (kh : Sg → Int32 → Int32 → Int32 → Option (Int32 × Sg)) (kx : Sg → Int32 → Option (Int32 × Sg)) (σ : Sg) (x1 : Int32) (x2 : Int32) (x3 : Int32) : Option (Int32 × Sg) :=
  gk 4 (dn (σ 3 0)) (fun n_1 => (if (σ n_1 3) ≤ x3 then kx σ x2 else bi (fX2_canTake σ x3 x1) (fun r_3 σ_3 => lt (x2 + r_3) (fun x2_4 => lt (x3 + 1) (fun x3_5 => kh σ_3 x1 x2_4 x3_5)))))
set_option maxRecDepth 100000 in
set_option maxHeartbeats 4000000 in
theorem wX2_canTakeTogether_4b {p : Program} {l : Launch} {e : Env} {s : State} {m : MethodId} {args : Array Value} {below : List Frame} {meth : Method} {c : Code} {D : va_G} {cI cZ cO : ClassId} {b : Nat} (C : Cx p s m args meth c cX2_canTakeTogether RX2 4 (some .int) D cI cZ cO) {Rr : (Int32 × Sg)} {kh : Sg → Int32 → Int32 → Int32 → Option (Int32 × Sg)} {kx : Sg → Int32 → Option (Int32 × Sg)} (hh : ∀ (σ : Sg) (x1 : Int32) (x2 : Int32) (x3 : Int32) (H : Heap) (locs : List Loc) (ls : Array Slot), kh σ x1 x2 x3 = some Rr → Gd b D cI cZ cO σ s.heap H locs → lv_has ls 4 [(0, .ref (b + 3)), (1, .int x1), (2, .int x2), (3, .int x3)] → W p l e rmX2_canTakeTogether s m args below meth c H locs 0 0 (MQ below (QI b D cI cZ cO Rr) args s 0 0 (fun q => b ≤ q)) (F0 m 4 ls [])) (hxx : ∀ (σ : Sg) (x2 : Int32) (H : Heap) (locs : List Loc) (ls : Array Slot), kx σ x2 = some Rr → Gd b D cI cZ cO σ s.heap H locs → lv_has ls 4 [(2, .int x2)] → W p l e rmX2_canTakeTogether s m args below meth c H locs 0 0 (MQ below (QI b D cI cZ cO Rr) args s 0 0 (fun q => b ≤ q)) (F0 m 30 ls [])) {σ : Sg} {x1 : Int32} {x2 : Int32} {x3 : Int32} {H : Heap} {locs : List Loc} {ls : Array Slot} (hs : fX2_canTakeTogether_4b kh kx σ x1 x2 x3 = some Rr) (G : Gd b D cI cZ cO σ s.heap H locs) (hl : lv_has ls 4 [(0, .ref (b + 3)), (1, .int x1), (2, .int x2), (3, .int x3)]) : W p l e rmX2_canTakeTogether s m args below meth c H locs 0 0 (MQ below (QI b D cI cZ cO Rr) args s 0 0 (fun q => b ≤ q)) (F0 m 4 ls []) := by
  have hx := C.1
  have hb := C.2.1
  unfold fX2_canTakeTogether_4b at hs
  refine lv_iload_n hx hb dX2_canTakeTogether_4 rfl (lv_at hl 3 rfl) ?_
  refine lv_aload_n hx hb dX2_canTakeTogether_5 rfl (lv_at hl 0 rfl) ?_
  obtain ⟨n_1, en_1, hk_1, hs⟩ := gkE hs
  refine gf_X2_12 C G kd_3 en_1 dX2_canTakeTogether_6 ?_
  refine gf_X2_36 C G hk_1 dX2_canTakeTogether_9 ?_
  refine lv_icmp_ge (tgt := 30) hx hb dX2_canTakeTogether_12 (by decide) (fun c_2 => ?_) (fun c_2 => ?_)
  · replace hs := ifT c_2 hs
    exact hxx _ _ _ _ _ hs G (lv_sub hl [2] rfl)
  · replace hs := ifF c_2 hs
    refine lv_iload_n hx hb dX2_canTakeTogether_15 rfl (lv_at hl 2 rfl) ?_
    refine lv_aload_n hx hb dX2_canTakeTogether_16 rfl (lv_at hl 0 rfl) ?_
    refine lv_iload_n hx hb dX2_canTakeTogether_17 rfl (lv_at hl 3 rfl) ?_
    refine lv_iload_n hx hb dX2_canTakeTogether_18 rfl (lv_at hl 1 rfl) ?_
    obtain ⟨r_3, σ_3, hc, hs⟩ := biE hs
    refine callVI (ar := 2) (As := [.int x3, .int x1]) (rest := [.int x2]) C G hl.1 (ctX2_canTake _  hc) ⟨wd_542, wd_544, wd_10, wd_71, wd_545⟩ (by decide +kernel) rfl ⟨rfl, rfl⟩ ⟨Nat.le_of_ble_eq_true rfl, Nat.le_of_ble_eq_true rfl⟩ (kd_lt kd_3 (by decide)) (ent_2 b cI cZ cO _ kd_3) rfl (Nat.le_of_ble_eq_true rfl) ⟨Nat.le_of_ble_eq_true rfl, Nat.le_of_ble_eq_true rfl⟩ dX2_canTakeTogether_19 rfl (fun H locs G => ?_)
    refine lv_iadd hx hb dX2_canTakeTogether_22 ?_
    refine topI hs (fun x2_4 hs => ?_)
    refine lv_istore_n (lv' := [(2, .int x2_4), (0, .ref (b + 3)), (1, .int x1), (3, .int x3)]) hx hb dX2_canTakeTogether_23 rfl hl (by decide) rfl (fun ls hl => ?_)
    obtain ⟨x3_5, e_5, hs⟩ := ltE hs
    refine lv_iinc (v := x3_5) (lv' := [(3, .int x3_5), (2, .int x2_4), (0, .ref (b + 3)), (1, .int x1)]) hx hb dX2_canTakeTogether_24 hl (k := 3) rfl (by rw [e_5]; rfl) (by decide) rfl (fun ls hl => ?_)
    refine lv_goto (tgt := 4) hx hb dX2_canTakeTogether_27 (by decide) ?_
    exact hh _ _ _ _ _ _ _ hs G (lv_sub hl [2, 3, 1, 0] rfl)
def fX2_canTakeTogether_4 : Nat → (Sg → Int32 → Option (Int32 × Sg)) → Sg → Int32 → Int32 → Int32 → Option (Int32 × Sg)
  | 0, _, _, _, _, _ => none
  | fu + 1, kx, σ, x1, x2, x3 => fX2_canTakeTogether_4b (fX2_canTakeTogether_4 fu kx) kx σ x1 x2 x3
theorem fX2_canTakeTogether_4_s (fu : Nat) (kx : Sg → Int32 → Option (Int32 × Sg)) (σ : Sg) (x1 : Int32) (x2 : Int32) (x3 : Int32) : fX2_canTakeTogether_4 (fu + 1) kx σ x1 x2 x3 = fX2_canTakeTogether_4b (fX2_canTakeTogether_4 fu kx) kx σ x1 x2 x3 := by rw [fX2_canTakeTogether_4]
theorem wX2_canTakeTogether_4 {p : Program} {l : Launch} {e : Env} {s : State} {m : MethodId} {args : Array Value} {below : List Frame} {meth : Method} {c : Code} {D : va_G} {cI cZ cO : ClassId} {b : Nat} (C : Cx p s m args meth c cX2_canTakeTogether RX2 4 (some .int) D cI cZ cO) {Rr : (Int32 × Sg)} {kx : Sg → Int32 → Option (Int32 × Sg)} (hxx : ∀ (σ : Sg) (x2 : Int32) (H : Heap) (locs : List Loc) (ls : Array Slot), kx σ x2 = some Rr → Gd b D cI cZ cO σ s.heap H locs → lv_has ls 4 [(2, .int x2)] → W p l e rmX2_canTakeTogether s m args below meth c H locs 0 0 (MQ below (QI b D cI cZ cO Rr) args s 0 0 (fun q => b ≤ q)) (F0 m 30 ls [])) : ∀ (fu : Nat) (σ : Sg) (x1 : Int32) (x2 : Int32) (x3 : Int32) (H : Heap) (locs : List Loc) (ls : Array Slot), fX2_canTakeTogether_4 fu kx σ x1 x2 x3 = some Rr → Gd b D cI cZ cO σ s.heap H locs → lv_has ls 4 [(0, .ref (b + 3)), (1, .int x1), (2, .int x2), (3, .int x3)] → W p l e rmX2_canTakeTogether s m args below meth c H locs 0 0 (MQ below (QI b D cI cZ cO Rr) args s 0 0 (fun q => b ≤ q)) (F0 m 4 ls []) := by
  intro fu
  induction fu with
  | zero => intro σ x1 x2 x3 H locs ls hs; cases hs
  | succ fu ih =>
    intro σ x1 x2 x3 H locs ls hs G hl
    exact wX2_canTakeTogether_4b C (fun σ x1 x2 x3 H locs ls hs G hl => ih σ x1 x2 x3 H locs ls hs G hl) hxx hs G hl
def fX2_canTakeTogether (σ : Sg) (x1 : Int32) : Option (Int32 × Sg) :=
  fX2_canTakeTogether_4 FU (fun σ_6 x2_6 => some (x2_6, σ_6)) σ x1 0 0
set_option maxRecDepth 100000 in
set_option maxHeartbeats 4000000 in
theorem ctX2_canTakeTogether (l : Launch) {D : va_G} {cI cZ cO : ClassId} {b : Nat} {σ : Sg} {x1 : Int32} {Rr : (Int32 × Sg)} (hs : fX2_canTakeTogether σ x1 = some Rr) : MI l yX2_canTakeTogether cX2_canTakeTogether 4 (some .int) rmX2_canTakeTogether [.ref (b + 3), .int x1] b D cI cZ cO σ Rr := by
  unfold fX2_canTakeTogether at hs
  refine metI (by decide +kernel) (Nat.le_of_ble_eq_true rfl) (fun p e s m below meth c ls C G hl => ?_)
  have C : Cx p s m _ meth c cX2_canTakeTogether RX2 4 (some .int) D cI cZ cO := C
  have hx := C.1
  have hb := C.2.1
  have hl : lv_has ls 4 [(0, .ref (b + 3)), (1, .int x1)] := hl
  refine lv_iconst (v := 0) hx hb dX2_canTakeTogether_0 (by decide) ?_
  refine lv_istore_n (lv' := [(2, .int 0), (0, .ref (b + 3)), (1, .int x1)]) hx hb dX2_canTakeTogether_1 rfl hl (by decide) rfl (fun ls hl => ?_)
  refine lv_iconst (v := 0) hx hb dX2_canTakeTogether_2 (by decide) ?_
  refine lv_istore_n (lv' := [(3, .int 0), (2, .int 0), (0, .ref (b + 3)), (1, .int x1)]) hx hb dX2_canTakeTogether_3 rfl hl (by decide) rfl (fun ls hl => ?_)
  refine wX2_canTakeTogether_4 C (fun σ_6 x2_6 H locs ls hs G hl => ?_) FU _ _ _ _ _ _ _ hs G (lv_sub hl [2, 3, 1, 0] rfl)
  refine lv_iload_n hx hb dX2_canTakeTogether_30 rfl (lv_at hl 0 rfl) ?_
  exact retI C G hs dX2_canTakeTogether_31
-- X2_had
def rmX2_had : Room := { frames := 3, cells := 0, slots := 0, locals := 62 }
def fX2_had_10b (kh : Sg → Int32 → Int32 → Int32 → Option (Int32 × Sg)) (kx : Sg → Int32 → Int32 → Option (Int32 × Sg)) (σ : Sg) (x1 : Int32) (x2 : Int32) (x3 : Int32) : Option (Int32 × Sg) :=
  (if x1 ≤ x3 then kx σ x1 x2 else bi (fX2_taken σ x3 x2) (fun r_3 σ_3 => lt (x2 - r_3) (fun x2_4 => lt (x3 + 1) (fun x3_5 => kh σ_3 x1 x2_4 x3_5))))
set_option maxRecDepth 100000 in
set_option maxHeartbeats 4000000 in
theorem wX2_had_10b {p : Program} {l : Launch} {e : Env} {s : State} {m : MethodId} {args : Array Value} {below : List Frame} {meth : Method} {c : Code} {D : va_G} {cI cZ cO : ClassId} {b : Nat} (C : Cx p s m args meth c cX2_had RX2 4 (some .int) D cI cZ cO) {Rr : (Int32 × Sg)} {kh : Sg → Int32 → Int32 → Int32 → Option (Int32 × Sg)} {kx : Sg → Int32 → Int32 → Option (Int32 × Sg)} (hh : ∀ (σ : Sg) (x1 : Int32) (x2 : Int32) (x3 : Int32) (H : Heap) (locs : List Loc) (ls : Array Slot), kh σ x1 x2 x3 = some Rr → Gd b D cI cZ cO σ s.heap H locs → lv_has ls 4 [(0, .ref (b + 3)), (1, .int x1), (2, .int x2), (3, .int x3)] → W p l e rmX2_had s m args below meth c H locs 0 0 (MQ below (QI b D cI cZ cO Rr) args s 0 0 (fun q => b ≤ q)) (F0 m 10 ls [])) (hxx : ∀ (σ : Sg) (x1 : Int32) (x2 : Int32) (H : Heap) (locs : List Loc) (ls : Array Slot), kx σ x1 x2 = some Rr → Gd b D cI cZ cO σ s.heap H locs → lv_has ls 4 [(0, .ref (b + 3)), (1, .int x1), (2, .int x2)] → W p l e rmX2_had s m args below meth c H locs 0 0 (MQ below (QI b D cI cZ cO Rr) args s 0 0 (fun q => b ≤ q)) (F0 m 30 ls [])) {σ : Sg} {x1 : Int32} {x2 : Int32} {x3 : Int32} {H : Heap} {locs : List Loc} {ls : Array Slot} (hs : fX2_had_10b kh kx σ x1 x2 x3 = some Rr) (G : Gd b D cI cZ cO σ s.heap H locs) (hl : lv_has ls 4 [(0, .ref (b + 3)), (1, .int x1), (2, .int x2), (3, .int x3)]) : W p l e rmX2_had s m args below meth c H locs 0 0 (MQ below (QI b D cI cZ cO Rr) args s 0 0 (fun q => b ≤ q)) (F0 m 10 ls []) := by
  have hx := C.1
  have hb := C.2.1
  unfold fX2_had_10b at hs
  refine lv_iload_n hx hb dX2_had_10 rfl (lv_at hl 3 rfl) ?_
  refine lv_iload_n hx hb dX2_had_11 rfl (lv_at hl 1 rfl) ?_
  refine lv_icmp_ge (tgt := 30) hx hb dX2_had_12 (by decide) (fun c_2 => ?_) (fun c_2 => ?_)
  · replace hs := ifT c_2 hs
    exact hxx _ _ _ _ _ _ hs G (lv_sub hl [0, 1, 2] rfl)
  · replace hs := ifF c_2 hs
    refine lv_iload_n hx hb dX2_had_15 rfl (lv_at hl 2 rfl) ?_
    refine lv_aload_n hx hb dX2_had_16 rfl (lv_at hl 0 rfl) ?_
    refine lv_iload_n hx hb dX2_had_17 rfl (lv_at hl 3 rfl) ?_
    refine lv_iload_n hx hb dX2_had_18 rfl (lv_at hl 2 rfl) ?_
    obtain ⟨r_3, σ_3, hc, hs⟩ := biE hs
    refine callVI (ar := 2) (As := [.int x3, .int x2]) (rest := [.int x2]) C G hl.1 (ctX2_taken _  hc) ⟨wd_637, wd_639, wd_14, wd_71, wd_640⟩ (by decide +kernel) rfl ⟨rfl, rfl⟩ ⟨Nat.le_of_ble_eq_true rfl, Nat.le_of_ble_eq_true rfl⟩ (kd_lt kd_3 (by decide)) (ent_2 b cI cZ cO _ kd_3) rfl (Nat.le_of_ble_eq_true rfl) ⟨Nat.le_of_ble_eq_true rfl, Nat.le_of_ble_eq_true rfl⟩ dX2_had_19 rfl (fun H locs G => ?_)
    refine lv_isub hx hb dX2_had_22 ?_
    refine topI hs (fun x2_4 hs => ?_)
    refine lv_istore_n (lv' := [(2, .int x2_4), (0, .ref (b + 3)), (1, .int x1), (3, .int x3)]) hx hb dX2_had_23 rfl hl (by decide) rfl (fun ls hl => ?_)
    obtain ⟨x3_5, e_5, hs⟩ := ltE hs
    refine lv_iinc (v := x3_5) (lv' := [(3, .int x3_5), (2, .int x2_4), (0, .ref (b + 3)), (1, .int x1)]) hx hb dX2_had_24 hl (k := 3) rfl (by rw [e_5]; rfl) (by decide) rfl (fun ls hl => ?_)
    refine lv_goto (tgt := 10) hx hb dX2_had_27 (by decide) ?_
    exact hh _ _ _ _ _ _ _ hs G (lv_sub hl [2, 3, 1, 0] rfl)
def fX2_had_10 : Nat → (Sg → Int32 → Int32 → Option (Int32 × Sg)) → Sg → Int32 → Int32 → Int32 → Option (Int32 × Sg)
  | 0, _, _, _, _, _ => none
  | fu + 1, kx, σ, x1, x2, x3 => fX2_had_10b (fX2_had_10 fu kx) kx σ x1 x2 x3
theorem fX2_had_10_s (fu : Nat) (kx : Sg → Int32 → Int32 → Option (Int32 × Sg)) (σ : Sg) (x1 : Int32) (x2 : Int32) (x3 : Int32) : fX2_had_10 (fu + 1) kx σ x1 x2 x3 = fX2_had_10b (fX2_had_10 fu kx) kx σ x1 x2 x3 := by rw [fX2_had_10]
theorem wX2_had_10 {p : Program} {l : Launch} {e : Env} {s : State} {m : MethodId} {args : Array Value} {below : List Frame} {meth : Method} {c : Code} {D : va_G} {cI cZ cO : ClassId} {b : Nat} (C : Cx p s m args meth c cX2_had RX2 4 (some .int) D cI cZ cO) {Rr : (Int32 × Sg)} {kx : Sg → Int32 → Int32 → Option (Int32 × Sg)} (hxx : ∀ (σ : Sg) (x1 : Int32) (x2 : Int32) (H : Heap) (locs : List Loc) (ls : Array Slot), kx σ x1 x2 = some Rr → Gd b D cI cZ cO σ s.heap H locs → lv_has ls 4 [(0, .ref (b + 3)), (1, .int x1), (2, .int x2)] → W p l e rmX2_had s m args below meth c H locs 0 0 (MQ below (QI b D cI cZ cO Rr) args s 0 0 (fun q => b ≤ q)) (F0 m 30 ls [])) : ∀ (fu : Nat) (σ : Sg) (x1 : Int32) (x2 : Int32) (x3 : Int32) (H : Heap) (locs : List Loc) (ls : Array Slot), fX2_had_10 fu kx σ x1 x2 x3 = some Rr → Gd b D cI cZ cO σ s.heap H locs → lv_has ls 4 [(0, .ref (b + 3)), (1, .int x1), (2, .int x2), (3, .int x3)] → W p l e rmX2_had s m args below meth c H locs 0 0 (MQ below (QI b D cI cZ cO Rr) args s 0 0 (fun q => b ≤ q)) (F0 m 10 ls []) := by
  intro fu
  induction fu with
  | zero => intro σ x1 x2 x3 H locs ls hs; cases hs
  | succ fu ih =>
    intro σ x1 x2 x3 H locs ls hs G hl
    exact wX2_had_10b C (fun σ x1 x2 x3 H locs ls hs G hl => ih σ x1 x2 x3 H locs ls hs G hl) hxx hs G hl
def fX2_had (σ : Sg) (x1 : Int32) : Option (Int32 × Sg) :=
  lt (σ 11 1) (fun x2_1 => fX2_had_10 FU (fun σ_6 x1_6 x2_6 => bi (fX2_taken σ_6 x1_6 x2_6) (fun r_7 σ_7 => some (r_7, σ_7))) σ x1 x2_1 0)
set_option maxRecDepth 100000 in
set_option maxHeartbeats 4000000 in
theorem ctX2_had (l : Launch) {D : va_G} {cI cZ cO : ClassId} {b : Nat} {σ : Sg} {x1 : Int32} {Rr : (Int32 × Sg)} (hs : fX2_had σ x1 = some Rr) : MI l yX2_had cX2_had 4 (some .int) rmX2_had [.ref (b + 3), .int x1] b D cI cZ cO σ Rr := by
  unfold fX2_had at hs
  refine metI (by decide +kernel) (Nat.le_of_ble_eq_true rfl) (fun p e s m below meth c ls C G hl => ?_)
  have C : Cx p s m _ meth c cX2_had RX2 4 (some .int) D cI cZ cO := C
  have hx := C.1
  have hb := C.2.1
  have hl : lv_has ls 4 [(0, .ref (b + 3)), (1, .int x1)] := hl
  refine lv_aload_n hx hb dX2_had_0 rfl (lv_at hl 0 rfl) ?_
  refine gf_X2_21 C G kd_3 (n' := 11) rfl dX2_had_1 ?_
  refine gf_X2_89 C G kd_11 dX2_had_4 ?_
  refine topI hs (fun x2_1 hs => ?_)
  refine lv_istore_n (lv' := [(2, .int x2_1), (0, .ref (b + 3)), (1, .int x1)]) hx hb dX2_had_7 rfl hl (by decide) rfl (fun ls hl => ?_)
  refine lv_iconst (v := 0) hx hb dX2_had_8 (by decide) ?_
  refine lv_istore_n (lv' := [(3, .int 0), (2, .int x2_1), (0, .ref (b + 3)), (1, .int x1)]) hx hb dX2_had_9 rfl hl (by decide) rfl (fun ls hl => ?_)
  refine wX2_had_10 C (fun σ_6 x1_6 x2_6 H locs ls hs G hl => ?_) FU _ _ _ _ _ _ _ hs G (lv_sub hl [2, 3, 1, 0] rfl)
  refine lv_aload_n hx hb dX2_had_30 rfl (lv_at hl 0 rfl) ?_
  refine lv_iload_n hx hb dX2_had_31 rfl (lv_at hl 1 rfl) ?_
  refine lv_iload_n hx hb dX2_had_32 rfl (lv_at hl 2 rfl) ?_
  obtain ⟨r_7, σ_7, hc, hs⟩ := biE hs
  refine callVI (ar := 2) (As := [.int x1_6, .int x2_6]) (rest := []) C G hl.1 (ctX2_taken _  hc) ⟨wd_637, wd_639, wd_14, wd_71, wd_640⟩ (by decide +kernel) rfl ⟨rfl, rfl⟩ ⟨Nat.le_of_ble_eq_true rfl, Nat.le_of_ble_eq_true rfl⟩ (kd_lt kd_3 (by decide)) (ent_2 b cI cZ cO _ kd_3) rfl (Nat.le_of_ble_eq_true rfl) ⟨Nat.le_of_ble_eq_true rfl, Nat.le_of_ble_eq_true rfl⟩ dX2_had_33 rfl (fun H locs G => ?_)
  exact retI C G hs dX2_had_36
-- X2_isBorne
def rmX2_isBorne : Room := { frames := 2, cells := 0, slots := 0, locals := 46 }
def fX2_isBorne (σ : Sg) : Option (Int32 × Sg) :=
  bi (fX2_untold σ) (fun r_1 σ_1 => bi (fX2_canTakeTogether σ_1 r_1) (fun r_2 σ_2 => (if r_2 < (σ 11 1) then some (0, σ_2) else some (1, σ_2))))
set_option maxRecDepth 100000 in
set_option maxHeartbeats 4000000 in
theorem ctX2_isBorne (l : Launch) {D : va_G} {cI cZ cO : ClassId} {b : Nat} {σ : Sg} {Rr : (Int32 × Sg)} (hs : fX2_isBorne σ = some Rr) : MI l yX2_isBorne cX2_isBorne 1 (some .boolean) rmX2_isBorne [.ref (b + 3)] b D cI cZ cO σ Rr := by
  unfold fX2_isBorne at hs
  refine metI (by decide +kernel) (Nat.le_of_ble_eq_true rfl) (fun p e s m below meth c ls C G hl => ?_)
  have C : Cx p s m _ meth c cX2_isBorne RX2 1 (some .boolean) D cI cZ cO := C
  have hx := C.1
  have hb := C.2.1
  have hl : lv_has ls 1 [(0, .ref (b + 3))] := hl
  refine lv_aload_n hx hb dX2_isBorne_0 rfl (lv_at hl 0 rfl) ?_
  refine gf_X2_21 C G kd_3 (n' := 11) rfl dX2_isBorne_1 ?_
  refine gf_X2_89 C G kd_11 dX2_isBorne_4 ?_
  refine lv_aload_n hx hb dX2_isBorne_7 rfl (lv_at hl 0 rfl) ?_
  refine lv_aload_n hx hb dX2_isBorne_8 rfl (lv_at hl 0 rfl) ?_
  obtain ⟨r_1, σ_1, hc, hs⟩ := biE hs
  refine callVI (ar := 0) (As := []) (rest := [.ref (b + 3), .int (σ 11 1)]) C G hl.1 (ctX2_untold _  hc) ⟨wd_537, wd_526, wd_527, wd_71, wd_528⟩ (by decide +kernel) rfl ⟨rfl, rfl⟩ ⟨Nat.le_of_ble_eq_true rfl, Nat.le_of_ble_eq_true rfl⟩ (kd_lt kd_3 (by decide)) (ent_2 b cI cZ cO _ kd_3) rfl (Nat.le_of_ble_eq_true rfl) ⟨Nat.le_of_ble_eq_true rfl, Nat.le_of_ble_eq_true rfl⟩ dX2_isBorne_9 rfl (fun H locs G => ?_)
  obtain ⟨r_2, σ_2, hc, hs⟩ := biE hs
  refine callVI (ar := 1) (As := [.int r_1]) (rest := [.int (σ 11 1)]) C G hl.1 (ctX2_canTakeTogether _  hc) ⟨wd_538, wd_540, wd_9, wd_71, wd_541⟩ (by decide +kernel) rfl ⟨rfl, rfl⟩ ⟨Nat.le_of_ble_eq_true rfl, Nat.le_of_ble_eq_true rfl⟩ (kd_lt kd_3 (by decide)) (ent_2 b cI cZ cO _ kd_3) rfl (Nat.le_of_ble_eq_true rfl) ⟨Nat.le_of_ble_eq_true rfl, Nat.le_of_ble_eq_true rfl⟩ dX2_isBorne_12 rfl (fun H locs G => ?_)
  refine lv_icmp_gt (tgt := 22) hx hb dX2_isBorne_15 (by decide) (fun c_3 => ?_) (fun c_3 => ?_)
  · replace hs := ifT c_3 hs
    refine lv_iconst (v := 0) hx hb dX2_isBorne_22 (by decide) ?_
    exact retZ C G (by decide) hs dX2_isBorne_23
  · replace hs := ifF c_3 hs
    refine lv_iconst (v := 1) hx hb dX2_isBorne_18 (by decide) ?_
    refine lv_goto (tgt := 23) hx hb dX2_isBorne_19 (by decide) ?_
    exact retZ C G (by decide) hs dX2_isBorne_23
-- X2_madeUp
def rmX2_madeUp : Room := { frames := 2, cells := 0, slots := 0, locals := 46 }
def fX2_madeUp_51 (kh : Sg → Int32 → Int32 → Int32 → Option (Int32 × Sg)) (kx : Sg → Option (Int32 × Sg)) (σ : Sg) (x2 : Int32) (x3 : Int32) (y0 : Int32) (y1 : Int32) : Option (Int32 × Sg) :=
  lt (y1 - y0) (fun x1_8 => lt (x3 + 1) (fun x3_9 => kh σ x1_8 x2 x3_9))
set_option maxRecDepth 100000 in
set_option maxHeartbeats 4000000 in
theorem wX2_madeUp_51 {p : Program} {l : Launch} {e : Env} {s : State} {m : MethodId} {args : Array Value} {below : List Frame} {meth : Method} {c : Code} {D : va_G} {cI cZ cO : ClassId} {b : Nat} (C : Cx p s m args meth c cX2_madeUp RX2 4 (some .int) D cI cZ cO) {Rr : (Int32 × Sg)} {kh : Sg → Int32 → Int32 → Int32 → Option (Int32 × Sg)} {kx : Sg → Option (Int32 × Sg)} (hh : ∀ (σ : Sg) (x1 : Int32) (x2 : Int32) (x3 : Int32) (H : Heap) (locs : List Loc) (ls : Array Slot), kh σ x1 x2 x3 = some Rr → Gd b D cI cZ cO σ s.heap H locs → lv_has ls 4 [(0, .ref (b + 3)), (1, .int x1), (2, .int x2), (3, .int x3)] → W p l e rmX2_madeUp s m args below meth c H locs 0 0 (MQ below (QI b D cI cZ cO Rr) args s 0 0 (fun q => b ≤ q)) (F0 m 22 ls [])) (hxx : ∀ (σ : Sg) (H : Heap) (locs : List Loc) (ls : Array Slot), kx σ = some Rr → Gd b D cI cZ cO σ s.heap H locs → lv_has ls 4 [] → W p l e rmX2_madeUp s m args below meth c H locs 0 0 (MQ below (QI b D cI cZ cO Rr) args s 0 0 (fun q => b ≤ q)) (F0 m 59 ls [])) {σ : Sg} {x2 : Int32} {x3 : Int32} {y0 : Int32} {y1 : Int32} {H : Heap} {locs : List Loc} {ls : Array Slot} (hs : fX2_madeUp_51 kh kx σ x2 x3 y0 y1 = some Rr) (G : Gd b D cI cZ cO σ s.heap H locs) (hl : lv_has ls 4 [(0, .ref (b + 3)), (2, .int x2), (3, .int x3)]) : W p l e rmX2_madeUp s m args below meth c H locs 0 0 (MQ below (QI b D cI cZ cO Rr) args s 0 0 (fun q => b ≤ q)) (F0 m 51 ls [.int y0, .int y1]) := by
  have hx := C.1
  have hb := C.2.1
  unfold fX2_madeUp_51 at hs
  refine lv_isub hx hb dX2_madeUp_51 ?_
  refine topI hs (fun x1_8 hs => ?_)
  refine lv_istore_n (lv' := [(1, .int x1_8), (0, .ref (b + 3)), (2, .int x2), (3, .int x3)]) hx hb dX2_madeUp_52 rfl hl (by decide) rfl (fun ls hl => ?_)
  obtain ⟨x3_9, e_9, hs⟩ := ltE hs
  refine lv_iinc (v := x3_9) (lv' := [(3, .int x3_9), (1, .int x1_8), (0, .ref (b + 3)), (2, .int x2)]) hx hb dX2_madeUp_53 hl (k := 3) rfl (by rw [e_9]; rfl) (by decide) rfl (fun ls hl => ?_)
  refine lv_goto (tgt := 22) hx hb dX2_madeUp_56 (by decide) ?_
  exact hh _ _ _ _ _ _ _ hs G (lv_sub hl [2, 1, 3, 0] rfl)
def fX2_madeUp_22b (kh : Sg → Int32 → Int32 → Int32 → Option (Int32 × Sg)) (kx : Sg → Option (Int32 × Sg)) (σ : Sg) (x1 : Int32) (x2 : Int32) (x3 : Int32) : Option (Int32 × Sg) :=
  (if 60 < x3 then kx σ else (if 0 < x1 then (if x3 = 0 then bi (fX2_untold σ) (fun r_10 σ_10 => bi (fX2_canTakeTogether σ_10 r_10) (fun r_11 σ_11 => fX2_madeUp_51 kh kx σ_11 x2 x3 r_11 x1)) else fX2_madeUp_51 kh kx σ x2 x3 x2 x1) else some (x3, σ)))
set_option maxRecDepth 100000 in
set_option maxHeartbeats 4000000 in
theorem wX2_madeUp_22b {p : Program} {l : Launch} {e : Env} {s : State} {m : MethodId} {args : Array Value} {below : List Frame} {meth : Method} {c : Code} {D : va_G} {cI cZ cO : ClassId} {b : Nat} (C : Cx p s m args meth c cX2_madeUp RX2 4 (some .int) D cI cZ cO) {Rr : (Int32 × Sg)} {kh : Sg → Int32 → Int32 → Int32 → Option (Int32 × Sg)} {kx : Sg → Option (Int32 × Sg)} (hh : ∀ (σ : Sg) (x1 : Int32) (x2 : Int32) (x3 : Int32) (H : Heap) (locs : List Loc) (ls : Array Slot), kh σ x1 x2 x3 = some Rr → Gd b D cI cZ cO σ s.heap H locs → lv_has ls 4 [(0, .ref (b + 3)), (1, .int x1), (2, .int x2), (3, .int x3)] → W p l e rmX2_madeUp s m args below meth c H locs 0 0 (MQ below (QI b D cI cZ cO Rr) args s 0 0 (fun q => b ≤ q)) (F0 m 22 ls [])) (hxx : ∀ (σ : Sg) (H : Heap) (locs : List Loc) (ls : Array Slot), kx σ = some Rr → Gd b D cI cZ cO σ s.heap H locs → lv_has ls 4 [] → W p l e rmX2_madeUp s m args below meth c H locs 0 0 (MQ below (QI b D cI cZ cO Rr) args s 0 0 (fun q => b ≤ q)) (F0 m 59 ls [])) {σ : Sg} {x1 : Int32} {x2 : Int32} {x3 : Int32} {H : Heap} {locs : List Loc} {ls : Array Slot} (hs : fX2_madeUp_22b kh kx σ x1 x2 x3 = some Rr) (G : Gd b D cI cZ cO σ s.heap H locs) (hl : lv_has ls 4 [(0, .ref (b + 3)), (1, .int x1), (2, .int x2), (3, .int x3)]) : W p l e rmX2_madeUp s m args below meth c H locs 0 0 (MQ below (QI b D cI cZ cO Rr) args s 0 0 (fun q => b ≤ q)) (F0 m 22 ls []) := by
  have hx := C.1
  have hb := C.2.1
  unfold fX2_madeUp_22b at hs
  refine lv_iload_n hx hb dX2_madeUp_22 rfl (lv_at hl 3 rfl) ?_
  refine lv_bipush (v := 60) hx hb dX2_madeUp_23 (by decide) ?_
  refine lv_icmp_gt (tgt := 59) hx hb dX2_madeUp_25 (by decide) (fun c_5 => ?_) (fun c_5 => ?_)
  · replace hs := ifT c_5 hs
    exact hxx _ _ _ _ hs G (lv_sub hl [] rfl)
  · replace hs := ifF c_5 hs
    refine lv_iload_n hx hb dX2_madeUp_28 rfl (lv_at hl 1 rfl) ?_
    refine lv_if_gt (tgt := 34) hx hb dX2_madeUp_29 (by decide) (fun c_6 => ?_) (fun c_6 => ?_)
    · replace hs := ifT c_6 hs
      refine lv_iload_n hx hb dX2_madeUp_34 rfl (lv_at hl 1 rfl) ?_
      refine lv_iload_n hx hb dX2_madeUp_35 rfl (lv_at hl 3 rfl) ?_
      refine lv_if_ne (tgt := 50) hx hb dX2_madeUp_36 (by decide) (fun c_7 => ?_) (fun c_7 => ?_)
      · replace hs := ifF c_7 hs
        refine lv_iload_n hx hb dX2_madeUp_50 rfl (lv_at hl 2 rfl) ?_
        exact wX2_madeUp_51 C  hh hxx hs G (lv_sub hl [0, 2, 3] rfl)
      · replace hs := ifT c_7 hs
        refine lv_aload_n hx hb dX2_madeUp_39 rfl (lv_at hl 0 rfl) ?_
        refine lv_aload_n hx hb dX2_madeUp_40 rfl (lv_at hl 0 rfl) ?_
        obtain ⟨r_10, σ_10, hc, hs⟩ := biE hs
        refine callVI (ar := 0) (As := []) (rest := [.ref (b + 3), .int x1]) C G hl.1 (ctX2_untold _  hc) ⟨wd_537, wd_526, wd_527, wd_71, wd_528⟩ (by decide +kernel) rfl ⟨rfl, rfl⟩ ⟨Nat.le_of_ble_eq_true rfl, Nat.le_of_ble_eq_true rfl⟩ (kd_lt kd_3 (by decide)) (ent_2 b cI cZ cO _ kd_3) rfl (Nat.le_of_ble_eq_true rfl) ⟨Nat.le_of_ble_eq_true rfl, Nat.le_of_ble_eq_true rfl⟩ dX2_madeUp_41 rfl (fun H locs G => ?_)
        obtain ⟨r_11, σ_11, hc, hs⟩ := biE hs
        refine callVI (ar := 1) (As := [.int r_10]) (rest := [.int x1]) C G hl.1 (ctX2_canTakeTogether _  hc) ⟨wd_538, wd_540, wd_9, wd_71, wd_541⟩ (by decide +kernel) rfl ⟨rfl, rfl⟩ ⟨Nat.le_of_ble_eq_true rfl, Nat.le_of_ble_eq_true rfl⟩ (kd_lt kd_3 (by decide)) (ent_2 b cI cZ cO _ kd_3) rfl (Nat.le_of_ble_eq_true rfl) ⟨Nat.le_of_ble_eq_true rfl, Nat.le_of_ble_eq_true rfl⟩ dX2_madeUp_44 rfl (fun H locs G => ?_)
        refine lv_goto (tgt := 51) hx hb dX2_madeUp_47 (by decide) ?_
        exact wX2_madeUp_51 C  hh hxx hs G (lv_sub hl [0, 2, 3] rfl)
    · replace hs := ifF c_6 hs
      refine lv_iload_n hx hb dX2_madeUp_32 rfl (lv_at hl 3 rfl) ?_
      exact retI C G hs dX2_madeUp_33
def fX2_madeUp_22 : Nat → (Sg → Option (Int32 × Sg)) → Sg → Int32 → Int32 → Int32 → Option (Int32 × Sg)
  | 0, _, _, _, _, _ => none
  | fu + 1, kx, σ, x1, x2, x3 => fX2_madeUp_22b (fX2_madeUp_22 fu kx) kx σ x1 x2 x3
theorem fX2_madeUp_22_s (fu : Nat) (kx : Sg → Option (Int32 × Sg)) (σ : Sg) (x1 : Int32) (x2 : Int32) (x3 : Int32) : fX2_madeUp_22 (fu + 1) kx σ x1 x2 x3 = fX2_madeUp_22b (fX2_madeUp_22 fu kx) kx σ x1 x2 x3 := by rw [fX2_madeUp_22]
theorem wX2_madeUp_22 {p : Program} {l : Launch} {e : Env} {s : State} {m : MethodId} {args : Array Value} {below : List Frame} {meth : Method} {c : Code} {D : va_G} {cI cZ cO : ClassId} {b : Nat} (C : Cx p s m args meth c cX2_madeUp RX2 4 (some .int) D cI cZ cO) {Rr : (Int32 × Sg)} {kx : Sg → Option (Int32 × Sg)} (hxx : ∀ (σ : Sg) (H : Heap) (locs : List Loc) (ls : Array Slot), kx σ = some Rr → Gd b D cI cZ cO σ s.heap H locs → lv_has ls 4 [] → W p l e rmX2_madeUp s m args below meth c H locs 0 0 (MQ below (QI b D cI cZ cO Rr) args s 0 0 (fun q => b ≤ q)) (F0 m 59 ls [])) : ∀ (fu : Nat) (σ : Sg) (x1 : Int32) (x2 : Int32) (x3 : Int32) (H : Heap) (locs : List Loc) (ls : Array Slot), fX2_madeUp_22 fu kx σ x1 x2 x3 = some Rr → Gd b D cI cZ cO σ s.heap H locs → lv_has ls 4 [(0, .ref (b + 3)), (1, .int x1), (2, .int x2), (3, .int x3)] → W p l e rmX2_madeUp s m args below meth c H locs 0 0 (MQ below (QI b D cI cZ cO Rr) args s 0 0 (fun q => b ≤ q)) (F0 m 22 ls []) := by
  intro fu
  induction fu with
  | zero => intro σ x1 x2 x3 H locs ls hs; cases hs
  | succ fu ih =>
    intro σ x1 x2 x3 H locs ls hs G hl
    exact wX2_madeUp_22b C (fun σ x1 x2 x3 H locs ls hs G hl => ih σ x1 x2 x3 H locs ls hs G hl) hxx hs G hl
def fX2_madeUp (σ : Sg) : Option (Int32 × Sg) :=
  lt (σ 11 1) (fun x1_1 => gk 4 (dn (σ 3 0)) (fun n_2 => bi (fX4_everybody n_2 σ) (fun r_3 σ_3 => bi (fX2_canTakeTogether σ_3 r_3) (fun r_4 σ_4 => fX2_madeUp_22 FU (fun σ_12 => some ((-1), σ_12)) σ_4 x1_1 r_4 0))))
set_option maxRecDepth 100000 in
set_option maxHeartbeats 4000000 in
theorem ctX2_madeUp (l : Launch) {D : va_G} {cI cZ cO : ClassId} {b : Nat} {σ : Sg} {Rr : (Int32 × Sg)} (hs : fX2_madeUp σ = some Rr) : MI l yX2_madeUp cX2_madeUp 4 (some .int) rmX2_madeUp [.ref (b + 3)] b D cI cZ cO σ Rr := by
  unfold fX2_madeUp at hs
  refine metI (by decide +kernel) (Nat.le_of_ble_eq_true rfl) (fun p e s m below meth c ls C G hl => ?_)
  have C : Cx p s m _ meth c cX2_madeUp RX2 4 (some .int) D cI cZ cO := C
  have hx := C.1
  have hb := C.2.1
  have hl : lv_has ls 4 [(0, .ref (b + 3))] := hl
  refine lv_aload_n hx hb dX2_madeUp_0 rfl (lv_at hl 0 rfl) ?_
  refine gf_X2_21 C G kd_3 (n' := 11) rfl dX2_madeUp_1 ?_
  refine gf_X2_89 C G kd_11 dX2_madeUp_4 ?_
  refine topI hs (fun x1_1 hs => ?_)
  refine lv_istore_n (lv' := [(1, .int x1_1), (0, .ref (b + 3))]) hx hb dX2_madeUp_7 rfl hl (by decide) rfl (fun ls hl => ?_)
  refine lv_aload_n hx hb dX2_madeUp_8 rfl (lv_at hl 1 rfl) ?_
  refine lv_aload_n hx hb dX2_madeUp_9 rfl (lv_at hl 1 rfl) ?_
  obtain ⟨n_2, en_2, hk_2, hs⟩ := gkE hs
  refine gf_X2_12 C G kd_3 en_2 dX2_madeUp_10 ?_
  obtain ⟨r_3, σ_3, hc, hs⟩ := biE hs
  refine callVI (ar := 0) (As := []) (rest := [.ref (b + 3)]) C G hl.1 (ctX4_everybody _ hk_2 hc) ⟨wd_529, wd_530, wd_531, wd_72, wd_532⟩ (by decide +kernel) rfl ⟨rfl, rfl⟩ ⟨Nat.le_of_ble_eq_true rfl, Nat.le_of_ble_eq_true rfl⟩ (kd_lt hk_2 (by decide)) (ent_4 b cI cZ cO _ hk_2) rfl (Nat.le_of_ble_eq_true rfl) ⟨Nat.le_of_ble_eq_true rfl, Nat.le_of_ble_eq_true rfl⟩ dX2_madeUp_13 rfl (fun H locs G => ?_)
  obtain ⟨r_4, σ_4, hc, hs⟩ := biE hs
  refine callVI (ar := 1) (As := [.int r_3]) (rest := []) C G hl.1 (ctX2_canTakeTogether _  hc) ⟨wd_538, wd_540, wd_9, wd_71, wd_541⟩ (by decide +kernel) rfl ⟨rfl, rfl⟩ ⟨Nat.le_of_ble_eq_true rfl, Nat.le_of_ble_eq_true rfl⟩ (kd_lt kd_3 (by decide)) (ent_2 b cI cZ cO _ kd_3) rfl (Nat.le_of_ble_eq_true rfl) ⟨Nat.le_of_ble_eq_true rfl, Nat.le_of_ble_eq_true rfl⟩ dX2_madeUp_16 rfl (fun H locs G => ?_)
  refine lv_istore_n (lv' := [(2, .int r_4), (1, .int x1_1), (0, .ref (b + 3))]) hx hb dX2_madeUp_19 rfl hl (by decide) rfl (fun ls hl => ?_)
  refine lv_iconst (v := 0) hx hb dX2_madeUp_20 (by decide) ?_
  refine lv_istore_n (lv' := [(3, .int 0), (2, .int r_4), (1, .int x1_1), (0, .ref (b + 3))]) hx hb dX2_madeUp_21 rfl hl (by decide) rfl (fun ls hl => ?_)
  refine wX2_madeUp_22 C (fun σ_12 H locs ls hs G hl => ?_) FU _ _ _ _ _ _ _ hs G (lv_sub hl [3, 2, 1, 0] rfl)
  refine lv_iconst (v := (-1)) hx hb dX2_madeUp_59 (by decide) ?_
  exact retI C G hs dX2_madeUp_60
-- X2_rid
def rmX2_rid : Room := { frames := 4, cells := 0, slots := 0, locals := 101 }
def fX2_rid_34 (kh : Sg → Int32 → Int32 → Int32 → Option (Int32 × Sg)) (kx : Sg → Int32 → Option (Int32 × Sg)) (σ : Sg) (x1 : Int32) (x2 : Int32) (x3 : Int32) : Option (Int32 × Sg) :=
  lt (x3 / 2) (fun x3_4 => kh σ x1 x2 x3_4)
set_option maxRecDepth 100000 in
set_option maxHeartbeats 4000000 in
theorem wX2_rid_34 {p : Program} {l : Launch} {e : Env} {s : State} {m : MethodId} {args : Array Value} {below : List Frame} {meth : Method} {c : Code} {D : va_G} {cI cZ cO : ClassId} {b : Nat} (C : Cx p s m args meth c cX2_rid RX2 5 (some .int) D cI cZ cO) {Rr : (Int32 × Sg)} {kh : Sg → Int32 → Int32 → Int32 → Option (Int32 × Sg)} {kx : Sg → Int32 → Option (Int32 × Sg)} (hh : ∀ (σ : Sg) (x1 : Int32) (x2 : Int32) (x3 : Int32) (H : Heap) (locs : List Loc) (ls : Array Slot), kh σ x1 x2 x3 = some Rr → Gd b D cI cZ cO σ s.heap H locs → lv_has ls 5 [(0, .ref (b + 3)), (1, .int x1), (2, .int x2), (3, .int x3)] → W p l e rmX2_rid s m args below meth c H locs 0 0 (MQ below (QI b D cI cZ cO Rr) args s 0 0 (fun q => b ≤ q)) (F0 m 5 ls [])) (hxx : ∀ (σ : Sg) (x2 : Int32) (H : Heap) (locs : List Loc) (ls : Array Slot), kx σ x2 = some Rr → Gd b D cI cZ cO σ s.heap H locs → lv_has ls 5 [(2, .int x2)] → W p l e rmX2_rid s m args below meth c H locs 0 0 (MQ below (QI b D cI cZ cO Rr) args s 0 0 (fun q => b ≤ q)) (F0 m 41 ls [])) {σ : Sg} {x1 : Int32} {x2 : Int32} {x3 : Int32} {H : Heap} {locs : List Loc} {ls : Array Slot} (hs : fX2_rid_34 kh kx σ x1 x2 x3 = some Rr) (G : Gd b D cI cZ cO σ s.heap H locs) (hl : lv_has ls 5 [(0, .ref (b + 3)), (1, .int x1), (2, .int x2), (3, .int x3)]) : W p l e rmX2_rid s m args below meth c H locs 0 0 (MQ below (QI b D cI cZ cO Rr) args s 0 0 (fun q => b ≤ q)) (F0 m 34 ls []) := by
  have hx := C.1
  have hb := C.2.1
  unfold fX2_rid_34 at hs
  refine lv_iload_n hx hb dX2_rid_34 rfl (lv_at hl 3 rfl) ?_
  refine lv_iconst (v := 2) hx hb dX2_rid_35 (by decide) ?_
  refine lv_idiv hx hb dX2_rid_36 (by decide) ?_
  refine topI hs (fun x3_4 hs => ?_)
  refine lv_istore_n (lv' := [(3, .int x3_4), (0, .ref (b + 3)), (1, .int x1), (2, .int x2)]) hx hb dX2_rid_37 rfl hl (by decide) rfl (fun ls hl => ?_)
  refine lv_goto (tgt := 5) hx hb dX2_rid_38 (by decide) ?_
  exact hh _ _ _ _ _ _ _ hs G (lv_sub hl [1, 2, 3, 0] rfl)
def fX2_rid_5b (kh : Sg → Int32 → Int32 → Int32 → Option (Int32 × Sg)) (kx : Sg → Int32 → Option (Int32 × Sg)) (σ : Sg) (x1 : Int32) (x2 : Int32) (x3 : Int32) : Option (Int32 × Sg) :=
  (if x3 ≤ 0 then kx σ x2 else lt (x2 + x3) (fun x4_2 => (if 99 < x4_2 then fX2_rid_34 kh kx σ x1 x2 x3 else bi (fX2_leftBy σ x1 x4_2) (fun r_5 σ_5 => (if r_5 = 0 then fX2_rid_34 kh kx σ_5 x1 x4_2 x3 else fX2_rid_34 kh kx σ_5 x1 x2 x3)))))
set_option maxRecDepth 100000 in
set_option maxHeartbeats 4000000 in
theorem wX2_rid_5b {p : Program} {l : Launch} {e : Env} {s : State} {m : MethodId} {args : Array Value} {below : List Frame} {meth : Method} {c : Code} {D : va_G} {cI cZ cO : ClassId} {b : Nat} (C : Cx p s m args meth c cX2_rid RX2 5 (some .int) D cI cZ cO) {Rr : (Int32 × Sg)} {kh : Sg → Int32 → Int32 → Int32 → Option (Int32 × Sg)} {kx : Sg → Int32 → Option (Int32 × Sg)} (hh : ∀ (σ : Sg) (x1 : Int32) (x2 : Int32) (x3 : Int32) (H : Heap) (locs : List Loc) (ls : Array Slot), kh σ x1 x2 x3 = some Rr → Gd b D cI cZ cO σ s.heap H locs → lv_has ls 5 [(0, .ref (b + 3)), (1, .int x1), (2, .int x2), (3, .int x3)] → W p l e rmX2_rid s m args below meth c H locs 0 0 (MQ below (QI b D cI cZ cO Rr) args s 0 0 (fun q => b ≤ q)) (F0 m 5 ls [])) (hxx : ∀ (σ : Sg) (x2 : Int32) (H : Heap) (locs : List Loc) (ls : Array Slot), kx σ x2 = some Rr → Gd b D cI cZ cO σ s.heap H locs → lv_has ls 5 [(2, .int x2)] → W p l e rmX2_rid s m args below meth c H locs 0 0 (MQ below (QI b D cI cZ cO Rr) args s 0 0 (fun q => b ≤ q)) (F0 m 41 ls [])) {σ : Sg} {x1 : Int32} {x2 : Int32} {x3 : Int32} {H : Heap} {locs : List Loc} {ls : Array Slot} (hs : fX2_rid_5b kh kx σ x1 x2 x3 = some Rr) (G : Gd b D cI cZ cO σ s.heap H locs) (hl : lv_has ls 5 [(0, .ref (b + 3)), (1, .int x1), (2, .int x2), (3, .int x3)]) : W p l e rmX2_rid s m args below meth c H locs 0 0 (MQ below (QI b D cI cZ cO Rr) args s 0 0 (fun q => b ≤ q)) (F0 m 5 ls []) := by
  have hx := C.1
  have hb := C.2.1
  unfold fX2_rid_5b at hs
  refine lv_iload_n hx hb dX2_rid_5 rfl (lv_at hl 3 rfl) ?_
  refine lv_if_le (tgt := 41) hx hb dX2_rid_6 (by decide) (fun c_1 => ?_) (fun c_1 => ?_)
  · replace hs := ifT c_1 hs
    exact hxx _ _ _ _ _ hs G (lv_sub hl [2] rfl)
  · replace hs := ifF c_1 hs
    refine lv_iload_n hx hb dX2_rid_9 rfl (lv_at hl 2 rfl) ?_
    refine lv_iload_n hx hb dX2_rid_10 rfl (lv_at hl 3 rfl) ?_
    refine lv_iadd hx hb dX2_rid_11 ?_
    refine topI hs (fun x4_2 hs => ?_)
    refine lv_istore (lv' := [(4, .int x4_2), (0, .ref (b + 3)), (1, .int x1), (2, .int x2), (3, .int x3)]) hx hb dX2_rid_12 hl (by decide) rfl (fun ls hl => ?_)
    refine lv_iload hx hb dX2_rid_14 (lv_at hl 0 rfl) ?_
    refine lv_bipush (v := 99) hx hb dX2_rid_16 (by decide) ?_
    refine lv_icmp_gt (tgt := 34) hx hb dX2_rid_18 (by decide) (fun c_3 => ?_) (fun c_3 => ?_)
    · replace hs := ifT c_3 hs
      exact wX2_rid_34 C  hh hxx hs G (lv_sub hl [1, 2, 3, 4] rfl)
    · replace hs := ifF c_3 hs
      refine lv_aload_n hx hb dX2_rid_21 rfl (lv_at hl 1 rfl) ?_
      refine lv_iload_n hx hb dX2_rid_22 rfl (lv_at hl 2 rfl) ?_
      refine lv_iload hx hb dX2_rid_23 (lv_at hl 0 rfl) ?_
      obtain ⟨r_5, σ_5, hc, hs⟩ := biE hs
      refine callVI (ar := 2) (As := [.int x1, .int x4_2]) (rest := []) C G hl.1 (ctX2_leftBy _  hc) ⟨wd_598, wd_599, wd_600, wd_71, wd_601⟩ (by decide +kernel) rfl ⟨rfl, rfl⟩ ⟨Nat.le_of_ble_eq_true rfl, Nat.le_of_ble_eq_true rfl⟩ (kd_lt kd_3 (by decide)) (ent_2 b cI cZ cO _ kd_3) rfl (Nat.le_of_ble_eq_true rfl) ⟨Nat.le_of_ble_eq_true rfl, Nat.le_of_ble_eq_true rfl⟩ dX2_rid_25 rfl (fun H locs G => ?_)
      refine lv_if_ne (tgt := 34) hx hb dX2_rid_28 (by decide) (fun c_6 => ?_) (fun c_6 => ?_)
      · replace hs := ifF c_6 hs
        exact wX2_rid_34 C  hh hxx hs G (lv_sub hl [1, 2, 3, 4] rfl)
      · replace hs := ifT c_6 hs
        refine lv_iload hx hb dX2_rid_31 (lv_at hl 0 rfl) ?_
        refine lv_istore_n (lv' := [(2, .int x4_2), (4, .int x4_2), (0, .ref (b + 3)), (1, .int x1), (3, .int x3)]) hx hb dX2_rid_33 rfl hl (by decide) rfl (fun ls hl => ?_)
        exact wX2_rid_34 C  hh hxx hs G (lv_sub hl [2, 3, 0, 4] rfl)
def fX2_rid_5 : Nat → (Sg → Int32 → Option (Int32 × Sg)) → Sg → Int32 → Int32 → Int32 → Option (Int32 × Sg)
  | 0, _, _, _, _, _ => none
  | fu + 1, kx, σ, x1, x2, x3 => fX2_rid_5b (fX2_rid_5 fu kx) kx σ x1 x2 x3
theorem fX2_rid_5_s (fu : Nat) (kx : Sg → Int32 → Option (Int32 × Sg)) (σ : Sg) (x1 : Int32) (x2 : Int32) (x3 : Int32) : fX2_rid_5 (fu + 1) kx σ x1 x2 x3 = fX2_rid_5b (fX2_rid_5 fu kx) kx σ x1 x2 x3 := by rw [fX2_rid_5]
theorem wX2_rid_5 {p : Program} {l : Launch} {e : Env} {s : State} {m : MethodId} {args : Array Value} {below : List Frame} {meth : Method} {c : Code} {D : va_G} {cI cZ cO : ClassId} {b : Nat} (C : Cx p s m args meth c cX2_rid RX2 5 (some .int) D cI cZ cO) {Rr : (Int32 × Sg)} {kx : Sg → Int32 → Option (Int32 × Sg)} (hxx : ∀ (σ : Sg) (x2 : Int32) (H : Heap) (locs : List Loc) (ls : Array Slot), kx σ x2 = some Rr → Gd b D cI cZ cO σ s.heap H locs → lv_has ls 5 [(2, .int x2)] → W p l e rmX2_rid s m args below meth c H locs 0 0 (MQ below (QI b D cI cZ cO Rr) args s 0 0 (fun q => b ≤ q)) (F0 m 41 ls [])) : ∀ (fu : Nat) (σ : Sg) (x1 : Int32) (x2 : Int32) (x3 : Int32) (H : Heap) (locs : List Loc) (ls : Array Slot), fX2_rid_5 fu kx σ x1 x2 x3 = some Rr → Gd b D cI cZ cO σ s.heap H locs → lv_has ls 5 [(0, .ref (b + 3)), (1, .int x1), (2, .int x2), (3, .int x3)] → W p l e rmX2_rid s m args below meth c H locs 0 0 (MQ below (QI b D cI cZ cO Rr) args s 0 0 (fun q => b ≤ q)) (F0 m 5 ls []) := by
  intro fu
  induction fu with
  | zero => intro σ x1 x2 x3 H locs ls hs; cases hs
  | succ fu ih =>
    intro σ x1 x2 x3 H locs ls hs G hl
    exact wX2_rid_5b C (fun σ x1 x2 x3 H locs ls hs G hl => ih σ x1 x2 x3 H locs ls hs G hl) hxx hs G hl
def fX2_rid (σ : Sg) (x1 : Int32) : Option (Int32 × Sg) :=
  fX2_rid_5 FU (fun σ_7 x2_7 => some (x2_7, σ_7)) σ x1 0 64
set_option maxRecDepth 100000 in
set_option maxHeartbeats 4000000 in
theorem ctX2_rid (l : Launch) {D : va_G} {cI cZ cO : ClassId} {b : Nat} {σ : Sg} {x1 : Int32} {Rr : (Int32 × Sg)} (hs : fX2_rid σ x1 = some Rr) : MI l yX2_rid cX2_rid 5 (some .int) rmX2_rid [.ref (b + 3), .int x1] b D cI cZ cO σ Rr := by
  unfold fX2_rid at hs
  refine metI (by decide +kernel) (Nat.le_of_ble_eq_true rfl) (fun p e s m below meth c ls C G hl => ?_)
  have C : Cx p s m _ meth c cX2_rid RX2 5 (some .int) D cI cZ cO := C
  have hx := C.1
  have hb := C.2.1
  have hl : lv_has ls 5 [(0, .ref (b + 3)), (1, .int x1)] := hl
  refine lv_iconst (v := 0) hx hb dX2_rid_0 (by decide) ?_
  refine lv_istore_n (lv' := [(2, .int 0), (0, .ref (b + 3)), (1, .int x1)]) hx hb dX2_rid_1 rfl hl (by decide) rfl (fun ls hl => ?_)
  refine lv_bipush (v := 64) hx hb dX2_rid_2 (by decide) ?_
  refine lv_istore_n (lv' := [(3, .int 64), (2, .int 0), (0, .ref (b + 3)), (1, .int x1)]) hx hb dX2_rid_4 rfl hl (by decide) rfl (fun ls hl => ?_)
  refine wX2_rid_5 C (fun σ_7 x2_7 H locs ls hs G hl => ?_) FU _ _ _ _ _ _ _ hs G (lv_sub hl [2, 3, 1, 0] rfl)
  refine lv_iload_n hx hb dX2_rid_41 rfl (lv_at hl 0 rfl) ?_
  exact retI C G hs dX2_rid_42
-- X2_bestFor
def rmX2_bestFor : Room := { frames := 4, cells := 0, slots := 0, locals := 101 }
def fX2_bestFor_53 (kh : Sg → Int32 → Int32 → Int32 → Int32 → Option (Int32 × Sg)) (kx : Sg → Int32 → Option (Int32 × Sg)) (σ : Sg) (x1 : Int32) (x2 : Int32) (x3 : Int32) (x4 : Int32) : Option (Int32 × Sg) :=
  lt (x4 + 1) (fun x4_8 => kh σ x1 x2 x3 x4_8)
set_option maxRecDepth 100000 in
set_option maxHeartbeats 4000000 in
theorem wX2_bestFor_53 {p : Program} {l : Launch} {e : Env} {s : State} {m : MethodId} {args : Array Value} {below : List Frame} {meth : Method} {c : Code} {D : va_G} {cI cZ cO : ClassId} {b : Nat} (C : Cx p s m args meth c cX2_bestFor RX2 6 (some .int) D cI cZ cO) {Rr : (Int32 × Sg)} {kh : Sg → Int32 → Int32 → Int32 → Int32 → Option (Int32 × Sg)} {kx : Sg → Int32 → Option (Int32 × Sg)} (hh : ∀ (σ : Sg) (x1 : Int32) (x2 : Int32) (x3 : Int32) (x4 : Int32) (H : Heap) (locs : List Loc) (ls : Array Slot), kh σ x1 x2 x3 x4 = some Rr → Gd b D cI cZ cO σ s.heap H locs → lv_has ls 6 [(0, .ref (b + 3)), (1, .int x1), (2, .int x2), (3, .int x3), (4, .int x4)] → W p l e rmX2_bestFor s m args below meth c H locs 0 0 (MQ below (QI b D cI cZ cO Rr) args s 0 0 (fun q => b ≤ q)) (F0 m 8 ls [])) (hxx : ∀ (σ : Sg) (x2 : Int32) (H : Heap) (locs : List Loc) (ls : Array Slot), kx σ x2 = some Rr → Gd b D cI cZ cO σ s.heap H locs → lv_has ls 6 [(2, .int x2)] → W p l e rmX2_bestFor s m args below meth c H locs 0 0 (MQ below (QI b D cI cZ cO Rr) args s 0 0 (fun q => b ≤ q)) (F0 m 59 ls [])) {σ : Sg} {x1 : Int32} {x2 : Int32} {x3 : Int32} {x4 : Int32} {H : Heap} {locs : List Loc} {ls : Array Slot} (hs : fX2_bestFor_53 kh kx σ x1 x2 x3 x4 = some Rr) (G : Gd b D cI cZ cO σ s.heap H locs) (hl : lv_has ls 6 [(0, .ref (b + 3)), (1, .int x1), (2, .int x2), (3, .int x3), (4, .int x4)]) : W p l e rmX2_bestFor s m args below meth c H locs 0 0 (MQ below (QI b D cI cZ cO Rr) args s 0 0 (fun q => b ≤ q)) (F0 m 53 ls []) := by
  have hx := C.1
  have hb := C.2.1
  unfold fX2_bestFor_53 at hs
  obtain ⟨x4_8, e_8, hs⟩ := ltE hs
  refine lv_iinc (v := x4_8) (lv' := [(4, .int x4_8), (0, .ref (b + 3)), (1, .int x1), (2, .int x2), (3, .int x3)]) hx hb dX2_bestFor_53 hl (k := 4) rfl (by rw [e_8]; rfl) (by decide) rfl (fun ls hl => ?_)
  refine lv_goto (tgt := 8) hx hb dX2_bestFor_56 (by decide) ?_
  exact hh _ _ _ _ _ _ _ _ hs G (lv_sub hl [1, 2, 3, 4, 0] rfl)
def fX2_bestFor_8b (kh : Sg → Int32 → Int32 → Int32 → Int32 → Option (Int32 × Sg)) (kx : Sg → Int32 → Option (Int32 × Sg)) (σ : Sg) (x1 : Int32) (x2 : Int32) (x3 : Int32) (x4 : Int32) : Option (Int32 × Sg) :=
  gk 4 (dn (σ 3 0)) (fun n_2 => (if (σ n_2 4) ≤ x4 then kx σ x2 else bi (fX2_canGoUp σ x4) (fun r_4 σ_4 => (if r_4 = 0 then fX2_bestFor_53 kh kx σ_4 x1 x2 x3 x4 else bi (fX2_leftBy σ_4 x4 x1) (fun r_6 σ_6 => (if x3 ≤ r_6 then fX2_bestFor_53 kh kx σ_6 x1 x2 x3 x4 else fX2_bestFor_53 kh kx σ_6 x1 x4 r_6 x4))))))
set_option maxRecDepth 100000 in
set_option maxHeartbeats 4000000 in
theorem wX2_bestFor_8b {p : Program} {l : Launch} {e : Env} {s : State} {m : MethodId} {args : Array Value} {below : List Frame} {meth : Method} {c : Code} {D : va_G} {cI cZ cO : ClassId} {b : Nat} (C : Cx p s m args meth c cX2_bestFor RX2 6 (some .int) D cI cZ cO) {Rr : (Int32 × Sg)} {kh : Sg → Int32 → Int32 → Int32 → Int32 → Option (Int32 × Sg)} {kx : Sg → Int32 → Option (Int32 × Sg)} (hh : ∀ (σ : Sg) (x1 : Int32) (x2 : Int32) (x3 : Int32) (x4 : Int32) (H : Heap) (locs : List Loc) (ls : Array Slot), kh σ x1 x2 x3 x4 = some Rr → Gd b D cI cZ cO σ s.heap H locs → lv_has ls 6 [(0, .ref (b + 3)), (1, .int x1), (2, .int x2), (3, .int x3), (4, .int x4)] → W p l e rmX2_bestFor s m args below meth c H locs 0 0 (MQ below (QI b D cI cZ cO Rr) args s 0 0 (fun q => b ≤ q)) (F0 m 8 ls [])) (hxx : ∀ (σ : Sg) (x2 : Int32) (H : Heap) (locs : List Loc) (ls : Array Slot), kx σ x2 = some Rr → Gd b D cI cZ cO σ s.heap H locs → lv_has ls 6 [(2, .int x2)] → W p l e rmX2_bestFor s m args below meth c H locs 0 0 (MQ below (QI b D cI cZ cO Rr) args s 0 0 (fun q => b ≤ q)) (F0 m 59 ls [])) {σ : Sg} {x1 : Int32} {x2 : Int32} {x3 : Int32} {x4 : Int32} {H : Heap} {locs : List Loc} {ls : Array Slot} (hs : fX2_bestFor_8b kh kx σ x1 x2 x3 x4 = some Rr) (G : Gd b D cI cZ cO σ s.heap H locs) (hl : lv_has ls 6 [(0, .ref (b + 3)), (1, .int x1), (2, .int x2), (3, .int x3), (4, .int x4)]) : W p l e rmX2_bestFor s m args below meth c H locs 0 0 (MQ below (QI b D cI cZ cO Rr) args s 0 0 (fun q => b ≤ q)) (F0 m 8 ls []) := by
  have hx := C.1
  have hb := C.2.1
  unfold fX2_bestFor_8b at hs
  refine lv_iload hx hb dX2_bestFor_8 (lv_at hl 4 rfl) ?_
  refine lv_aload_n hx hb dX2_bestFor_10 rfl (lv_at hl 0 rfl) ?_
  obtain ⟨n_2, en_2, hk_2, hs⟩ := gkE hs
  refine gf_X2_12 C G kd_3 en_2 dX2_bestFor_11 ?_
  refine gf_X2_32 C G hk_2 dX2_bestFor_14 ?_
  refine lv_icmp_ge (tgt := 59) hx hb dX2_bestFor_17 (by decide) (fun c_3 => ?_) (fun c_3 => ?_)
  · replace hs := ifT c_3 hs
    exact hxx _ _ _ _ _ hs G (lv_sub hl [2] rfl)
  · replace hs := ifF c_3 hs
    refine lv_aload_n hx hb dX2_bestFor_20 rfl (lv_at hl 0 rfl) ?_
    refine lv_iload hx hb dX2_bestFor_21 (lv_at hl 4 rfl) ?_
    obtain ⟨r_4, σ_4, hc, hs⟩ := biE hs
    refine callVI (ar := 1) (As := [.int x4]) (rest := []) C G hl.1 (ctX2_canGoUp _  hc) ⟨wd_670, wd_671, wd_672, wd_71, wd_673⟩ (by decide +kernel) rfl ⟨rfl, rfl⟩ ⟨Nat.le_of_ble_eq_true rfl, Nat.le_of_ble_eq_true rfl⟩ (kd_lt kd_3 (by decide)) (ent_2 b cI cZ cO _ kd_3) rfl (Nat.le_of_ble_eq_true rfl) ⟨Nat.le_of_ble_eq_true rfl, Nat.le_of_ble_eq_true rfl⟩ dX2_bestFor_23 rfl (fun H locs G => ?_)
    refine lv_if_ne (tgt := 32) hx hb dX2_bestFor_26 (by decide) (fun c_5 => ?_) (fun c_5 => ?_)
    · replace hs := ifF c_5 hs
      refine lv_aload_n hx hb dX2_bestFor_32 rfl (lv_at hl 0 rfl) ?_
      refine lv_iload hx hb dX2_bestFor_33 (lv_at hl 4 rfl) ?_
      refine lv_iload_n hx hb dX2_bestFor_35 rfl (lv_at hl 1 rfl) ?_
      obtain ⟨r_6, σ_6, hc, hs⟩ := biE hs
      refine callVI (ar := 2) (As := [.int x4, .int x1]) (rest := []) C G hl.1 (ctX2_leftBy _  hc) ⟨wd_598, wd_599, wd_600, wd_71, wd_601⟩ (by decide +kernel) rfl ⟨rfl, rfl⟩ ⟨Nat.le_of_ble_eq_true rfl, Nat.le_of_ble_eq_true rfl⟩ (kd_lt kd_3 (by decide)) (ent_2 b cI cZ cO _ kd_3) rfl (Nat.le_of_ble_eq_true rfl) ⟨Nat.le_of_ble_eq_true rfl, Nat.le_of_ble_eq_true rfl⟩ dX2_bestFor_36 rfl (fun H locs G => ?_)
      refine lv_istore (lv' := [(5, .int r_6), (0, .ref (b + 3)), (1, .int x1), (2, .int x2), (3, .int x3), (4, .int x4)]) hx hb dX2_bestFor_39 hl (by decide) rfl (fun ls hl => ?_)
      refine lv_iload hx hb dX2_bestFor_41 (lv_at hl 0 rfl) ?_
      refine lv_iload_n hx hb dX2_bestFor_43 rfl (lv_at hl 4 rfl) ?_
      refine lv_icmp_ge (tgt := 53) hx hb dX2_bestFor_44 (by decide) (fun c_7 => ?_) (fun c_7 => ?_)
      · replace hs := ifT c_7 hs
        exact wX2_bestFor_53 C  hh hxx hs G (lv_sub hl [1, 2, 3, 4, 5] rfl)
      · replace hs := ifF c_7 hs
        refine lv_iload hx hb dX2_bestFor_47 (lv_at hl 0 rfl) ?_
        refine lv_istore_n (lv' := [(3, .int r_6), (5, .int r_6), (0, .ref (b + 3)), (1, .int x1), (2, .int x2), (4, .int x4)]) hx hb dX2_bestFor_49 rfl hl (by decide) rfl (fun ls hl => ?_)
        refine lv_iload hx hb dX2_bestFor_50 (lv_at hl 5 rfl) ?_
        refine lv_istore_n (lv' := [(2, .int x4), (3, .int r_6), (5, .int r_6), (0, .ref (b + 3)), (1, .int x1), (4, .int x4)]) hx hb dX2_bestFor_52 rfl hl (by decide) rfl (fun ls hl => ?_)
        exact wX2_bestFor_53 C  hh hxx hs G (lv_sub hl [3, 4, 0, 1, 5] rfl)
    · replace hs := ifT c_5 hs
      refine lv_goto (tgt := 53) hx hb dX2_bestFor_29 (by decide) ?_
      exact wX2_bestFor_53 C  hh hxx hs G (lv_sub hl [0, 1, 2, 3, 4] rfl)
def fX2_bestFor_8 : Nat → (Sg → Int32 → Option (Int32 × Sg)) → Sg → Int32 → Int32 → Int32 → Int32 → Option (Int32 × Sg)
  | 0, _, _, _, _, _, _ => none
  | fu + 1, kx, σ, x1, x2, x3, x4 => fX2_bestFor_8b (fX2_bestFor_8 fu kx) kx σ x1 x2 x3 x4
theorem fX2_bestFor_8_s (fu : Nat) (kx : Sg → Int32 → Option (Int32 × Sg)) (σ : Sg) (x1 : Int32) (x2 : Int32) (x3 : Int32) (x4 : Int32) : fX2_bestFor_8 (fu + 1) kx σ x1 x2 x3 x4 = fX2_bestFor_8b (fX2_bestFor_8 fu kx) kx σ x1 x2 x3 x4 := by rw [fX2_bestFor_8]
theorem wX2_bestFor_8 {p : Program} {l : Launch} {e : Env} {s : State} {m : MethodId} {args : Array Value} {below : List Frame} {meth : Method} {c : Code} {D : va_G} {cI cZ cO : ClassId} {b : Nat} (C : Cx p s m args meth c cX2_bestFor RX2 6 (some .int) D cI cZ cO) {Rr : (Int32 × Sg)} {kx : Sg → Int32 → Option (Int32 × Sg)} (hxx : ∀ (σ : Sg) (x2 : Int32) (H : Heap) (locs : List Loc) (ls : Array Slot), kx σ x2 = some Rr → Gd b D cI cZ cO σ s.heap H locs → lv_has ls 6 [(2, .int x2)] → W p l e rmX2_bestFor s m args below meth c H locs 0 0 (MQ below (QI b D cI cZ cO Rr) args s 0 0 (fun q => b ≤ q)) (F0 m 59 ls [])) : ∀ (fu : Nat) (σ : Sg) (x1 : Int32) (x2 : Int32) (x3 : Int32) (x4 : Int32) (H : Heap) (locs : List Loc) (ls : Array Slot), fX2_bestFor_8 fu kx σ x1 x2 x3 x4 = some Rr → Gd b D cI cZ cO σ s.heap H locs → lv_has ls 6 [(0, .ref (b + 3)), (1, .int x1), (2, .int x2), (3, .int x3), (4, .int x4)] → W p l e rmX2_bestFor s m args below meth c H locs 0 0 (MQ below (QI b D cI cZ cO Rr) args s 0 0 (fun q => b ≤ q)) (F0 m 8 ls []) := by
  intro fu
  induction fu with
  | zero => intro σ x1 x2 x3 x4 H locs ls hs; cases hs
  | succ fu ih =>
    intro σ x1 x2 x3 x4 H locs ls hs G hl
    exact wX2_bestFor_8b C (fun σ x1 x2 x3 x4 H locs ls hs G hl => ih σ x1 x2 x3 x4 H locs ls hs G hl) hxx hs G hl
def fX2_bestFor (σ : Sg) (x1 : Int32) : Option (Int32 × Sg) :=
  lt (-1) (fun x2_1 => fX2_bestFor_8 FU (fun σ_9 x2_9 => some (x2_9, σ_9)) σ x1 x2_1 100 0)
set_option maxRecDepth 100000 in
set_option maxHeartbeats 4000000 in
theorem ctX2_bestFor (l : Launch) {D : va_G} {cI cZ cO : ClassId} {b : Nat} {σ : Sg} {x1 : Int32} {Rr : (Int32 × Sg)} (hs : fX2_bestFor σ x1 = some Rr) : MI l yX2_bestFor cX2_bestFor 6 (some .int) rmX2_bestFor [.ref (b + 3), .int x1] b D cI cZ cO σ Rr := by
  unfold fX2_bestFor at hs
  refine metI (by decide +kernel) (Nat.le_of_ble_eq_true rfl) (fun p e s m below meth c ls C G hl => ?_)
  have C : Cx p s m _ meth c cX2_bestFor RX2 6 (some .int) D cI cZ cO := C
  have hx := C.1
  have hb := C.2.1
  have hl : lv_has ls 6 [(0, .ref (b + 3)), (1, .int x1)] := hl
  refine lv_iconst (v := (-1)) hx hb dX2_bestFor_0 (by decide) ?_
  refine topI hs (fun x2_1 hs => ?_)
  refine lv_istore_n (lv' := [(2, .int x2_1), (0, .ref (b + 3)), (1, .int x1)]) hx hb dX2_bestFor_1 rfl hl (by decide) rfl (fun ls hl => ?_)
  refine lv_bipush (v := 100) hx hb dX2_bestFor_2 (by decide) ?_
  refine lv_istore_n (lv' := [(3, .int 100), (2, .int x2_1), (0, .ref (b + 3)), (1, .int x1)]) hx hb dX2_bestFor_4 rfl hl (by decide) rfl (fun ls hl => ?_)
  refine lv_iconst (v := 0) hx hb dX2_bestFor_5 (by decide) ?_
  refine lv_istore (lv' := [(4, .int 0), (3, .int 100), (2, .int x2_1), (0, .ref (b + 3)), (1, .int x1)]) hx hb dX2_bestFor_6 hl (by decide) rfl (fun ls hl => ?_)
  refine wX2_bestFor_8 C (fun σ_9 x2_9 H locs ls hs G hl => ?_) FU _ _ _ _ _ _ _ _ hs G (lv_sub hl [3, 4, 2, 1, 0] rfl)
  refine lv_iload_n hx hb dX2_bestFor_59 rfl (lv_at hl 0 rfl) ?_
  exact retI C G hs dX2_bestFor_60
-- X2_worst
def rmX2_worst : Room := { frames := 0, cells := 0, slots := 0, locals := 0 }
def fX2_worst_42 (kh : Sg → Int32 → Int32 → Int32 → Option (Int32 × Sg)) (kx : Sg → Int32 → Option (Int32 × Sg)) (σ : Sg) (x1 : Int32) (x2 : Int32) (x3 : Int32) : Option (Int32 × Sg) :=
  lt (x3 + 1) (fun x3_7 => kh σ x1 x2 x3_7)
set_option maxRecDepth 100000 in
set_option maxHeartbeats 4000000 in
theorem wX2_worst_42 {p : Program} {l : Launch} {e : Env} {s : State} {m : MethodId} {args : Array Value} {below : List Frame} {meth : Method} {c : Code} {D : va_G} {cI cZ cO : ClassId} {b : Nat} (C : Cx p s m args meth c cX2_worst RX2 4 (some .int) D cI cZ cO) {Rr : (Int32 × Sg)} {kh : Sg → Int32 → Int32 → Int32 → Option (Int32 × Sg)} {kx : Sg → Int32 → Option (Int32 × Sg)} (hh : ∀ (σ : Sg) (x1 : Int32) (x2 : Int32) (x3 : Int32) (H : Heap) (locs : List Loc) (ls : Array Slot), kh σ x1 x2 x3 = some Rr → Gd b D cI cZ cO σ s.heap H locs → lv_has ls 4 [(0, .ref (b + 3)), (1, .int x1), (2, .int x2), (3, .int x3)] → W p l e rmX2_worst s m args below meth c H locs 0 0 (MQ below (QI b D cI cZ cO Rr) args s 0 0 (fun q => b ≤ q)) (F0 m 6 ls [])) (hxx : ∀ (σ : Sg) (x1 : Int32) (H : Heap) (locs : List Loc) (ls : Array Slot), kx σ x1 = some Rr → Gd b D cI cZ cO σ s.heap H locs → lv_has ls 4 [(1, .int x1)] → W p l e rmX2_worst s m args below meth c H locs 0 0 (MQ below (QI b D cI cZ cO Rr) args s 0 0 (fun q => b ≤ q)) (F0 m 48 ls [])) {σ : Sg} {x1 : Int32} {x2 : Int32} {x3 : Int32} {H : Heap} {locs : List Loc} {ls : Array Slot} (hs : fX2_worst_42 kh kx σ x1 x2 x3 = some Rr) (G : Gd b D cI cZ cO σ s.heap H locs) (hl : lv_has ls 4 [(0, .ref (b + 3)), (1, .int x1), (2, .int x2), (3, .int x3)]) : W p l e rmX2_worst s m args below meth c H locs 0 0 (MQ below (QI b D cI cZ cO Rr) args s 0 0 (fun q => b ≤ q)) (F0 m 42 ls []) := by
  have hx := C.1
  have hb := C.2.1
  unfold fX2_worst_42 at hs
  obtain ⟨x3_7, e_7, hs⟩ := ltE hs
  refine lv_iinc (v := x3_7) (lv' := [(3, .int x3_7), (0, .ref (b + 3)), (1, .int x1), (2, .int x2)]) hx hb dX2_worst_42 hl (k := 3) rfl (by rw [e_7]; rfl) (by decide) rfl (fun ls hl => ?_)
  refine lv_goto (tgt := 6) hx hb dX2_worst_45 (by decide) ?_
  exact hh _ _ _ _ _ _ _ hs G (lv_sub hl [1, 2, 3, 0] rfl)
def fX2_worst_6b (kh : Sg → Int32 → Int32 → Int32 → Option (Int32 × Sg)) (kx : Sg → Int32 → Option (Int32 × Sg)) (σ : Sg) (x1 : Int32) (x2 : Int32) (x3 : Int32) : Option (Int32 × Sg) :=
  gk 4 (dn (σ 3 0)) (fun n_3 => (if (σ n_3 4) ≤ x3 then kx σ x1 else (if inb x3 7 then (if (σ 13 x3.toNatClampNeg) ≤ x2 then fX2_worst_42 kh kx σ x1 x2 x3 else (if inb x3 7 then lt (σ 13 x3.toNatClampNeg) (fun x2_9 => fX2_worst_42 kh kx σ x3 x2_9 x3) else none)) else none)))
set_option maxRecDepth 100000 in
set_option maxHeartbeats 4000000 in
theorem wX2_worst_6b {p : Program} {l : Launch} {e : Env} {s : State} {m : MethodId} {args : Array Value} {below : List Frame} {meth : Method} {c : Code} {D : va_G} {cI cZ cO : ClassId} {b : Nat} (C : Cx p s m args meth c cX2_worst RX2 4 (some .int) D cI cZ cO) {Rr : (Int32 × Sg)} {kh : Sg → Int32 → Int32 → Int32 → Option (Int32 × Sg)} {kx : Sg → Int32 → Option (Int32 × Sg)} (hh : ∀ (σ : Sg) (x1 : Int32) (x2 : Int32) (x3 : Int32) (H : Heap) (locs : List Loc) (ls : Array Slot), kh σ x1 x2 x3 = some Rr → Gd b D cI cZ cO σ s.heap H locs → lv_has ls 4 [(0, .ref (b + 3)), (1, .int x1), (2, .int x2), (3, .int x3)] → W p l e rmX2_worst s m args below meth c H locs 0 0 (MQ below (QI b D cI cZ cO Rr) args s 0 0 (fun q => b ≤ q)) (F0 m 6 ls [])) (hxx : ∀ (σ : Sg) (x1 : Int32) (H : Heap) (locs : List Loc) (ls : Array Slot), kx σ x1 = some Rr → Gd b D cI cZ cO σ s.heap H locs → lv_has ls 4 [(1, .int x1)] → W p l e rmX2_worst s m args below meth c H locs 0 0 (MQ below (QI b D cI cZ cO Rr) args s 0 0 (fun q => b ≤ q)) (F0 m 48 ls [])) {σ : Sg} {x1 : Int32} {x2 : Int32} {x3 : Int32} {H : Heap} {locs : List Loc} {ls : Array Slot} (hs : fX2_worst_6b kh kx σ x1 x2 x3 = some Rr) (G : Gd b D cI cZ cO σ s.heap H locs) (hl : lv_has ls 4 [(0, .ref (b + 3)), (1, .int x1), (2, .int x2), (3, .int x3)]) : W p l e rmX2_worst s m args below meth c H locs 0 0 (MQ below (QI b D cI cZ cO Rr) args s 0 0 (fun q => b ≤ q)) (F0 m 6 ls []) := by
  have hx := C.1
  have hb := C.2.1
  unfold fX2_worst_6b at hs
  refine lv_iload_n hx hb dX2_worst_6 rfl (lv_at hl 3 rfl) ?_
  refine lv_aload_n hx hb dX2_worst_7 rfl (lv_at hl 0 rfl) ?_
  obtain ⟨n_3, en_3, hk_3, hs⟩ := gkE hs
  refine gf_X2_12 C G kd_3 en_3 dX2_worst_8 ?_
  refine gf_X2_32 C G hk_3 dX2_worst_11 ?_
  refine lv_icmp_ge (tgt := 48) hx hb dX2_worst_14 (by decide) (fun c_4 => ?_) (fun c_4 => ?_)
  · replace hs := ifT c_4 hs
    exact hxx _ _ _ _ _ hs G (lv_sub hl [1] rfl)
  · replace hs := ifF c_4 hs
    refine lv_aload_n hx hb dX2_worst_17 rfl (lv_at hl 0 rfl) ?_
    refine gf_X2_21 C G kd_3 (n' := 11) rfl dX2_worst_18 ?_
    refine gf_X2_150 C G kd_11 (n' := 13) rfl dX2_worst_21 ?_
    refine lv_iload_n hx hb dX2_worst_24 rfl (lv_at hl 3 rfl) ?_
    obtain ⟨g_5, hs⟩ := gdE hs
    refine m_iald C G kd_13 ln_13 g_5 dX2_worst_25 ?_
    refine lv_iload_n hx hb dX2_worst_26 rfl (lv_at hl 2 rfl) ?_
    refine lv_icmp_le (tgt := 42) hx hb dX2_worst_27 (by decide) (fun c_6 => ?_) (fun c_6 => ?_)
    · replace hs := ifT c_6 hs
      exact wX2_worst_42 C  hh hxx hs G (lv_sub hl [0, 1, 2, 3] rfl)
    · replace hs := ifF c_6 hs
      refine lv_aload_n hx hb dX2_worst_30 rfl (lv_at hl 0 rfl) ?_
      refine gf_X2_21 C G kd_3 (n' := 11) rfl dX2_worst_31 ?_
      refine gf_X2_150 C G kd_11 (n' := 13) rfl dX2_worst_34 ?_
      refine lv_iload_n hx hb dX2_worst_37 rfl (lv_at hl 3 rfl) ?_
      obtain ⟨g_8, hs⟩ := gdE hs
      refine m_iald C G kd_13 ln_13 g_8 dX2_worst_38 ?_
      refine topI hs (fun x2_9 hs => ?_)
      refine lv_istore_n (lv' := [(2, .int x2_9), (0, .ref (b + 3)), (1, .int x1), (3, .int x3)]) hx hb dX2_worst_39 rfl hl (by decide) rfl (fun ls hl => ?_)
      refine lv_iload_n hx hb dX2_worst_40 rfl (lv_at hl 3 rfl) ?_
      refine lv_istore_n (lv' := [(1, .int x3), (2, .int x2_9), (0, .ref (b + 3)), (3, .int x3)]) hx hb dX2_worst_41 rfl hl (by decide) rfl (fun ls hl => ?_)
      exact wX2_worst_42 C  hh hxx hs G (lv_sub hl [2, 0, 1, 3] rfl)
def fX2_worst_6 : Nat → (Sg → Int32 → Option (Int32 × Sg)) → Sg → Int32 → Int32 → Int32 → Option (Int32 × Sg)
  | 0, _, _, _, _, _ => none
  | fu + 1, kx, σ, x1, x2, x3 => fX2_worst_6b (fX2_worst_6 fu kx) kx σ x1 x2 x3
theorem fX2_worst_6_s (fu : Nat) (kx : Sg → Int32 → Option (Int32 × Sg)) (σ : Sg) (x1 : Int32) (x2 : Int32) (x3 : Int32) : fX2_worst_6 (fu + 1) kx σ x1 x2 x3 = fX2_worst_6b (fX2_worst_6 fu kx) kx σ x1 x2 x3 := by rw [fX2_worst_6]
theorem wX2_worst_6 {p : Program} {l : Launch} {e : Env} {s : State} {m : MethodId} {args : Array Value} {below : List Frame} {meth : Method} {c : Code} {D : va_G} {cI cZ cO : ClassId} {b : Nat} (C : Cx p s m args meth c cX2_worst RX2 4 (some .int) D cI cZ cO) {Rr : (Int32 × Sg)} {kx : Sg → Int32 → Option (Int32 × Sg)} (hxx : ∀ (σ : Sg) (x1 : Int32) (H : Heap) (locs : List Loc) (ls : Array Slot), kx σ x1 = some Rr → Gd b D cI cZ cO σ s.heap H locs → lv_has ls 4 [(1, .int x1)] → W p l e rmX2_worst s m args below meth c H locs 0 0 (MQ below (QI b D cI cZ cO Rr) args s 0 0 (fun q => b ≤ q)) (F0 m 48 ls [])) : ∀ (fu : Nat) (σ : Sg) (x1 : Int32) (x2 : Int32) (x3 : Int32) (H : Heap) (locs : List Loc) (ls : Array Slot), fX2_worst_6 fu kx σ x1 x2 x3 = some Rr → Gd b D cI cZ cO σ s.heap H locs → lv_has ls 4 [(0, .ref (b + 3)), (1, .int x1), (2, .int x2), (3, .int x3)] → W p l e rmX2_worst s m args below meth c H locs 0 0 (MQ below (QI b D cI cZ cO Rr) args s 0 0 (fun q => b ≤ q)) (F0 m 6 ls []) := by
  intro fu
  induction fu with
  | zero => intro σ x1 x2 x3 H locs ls hs; cases hs
  | succ fu ih =>
    intro σ x1 x2 x3 H locs ls hs G hl
    exact wX2_worst_6b C (fun σ x1 x2 x3 H locs ls hs G hl => ih σ x1 x2 x3 H locs ls hs G hl) hxx hs G hl
def fX2_worst (σ : Sg) : Option (Int32 × Sg) :=
  lt (-1) (fun x1_1 => lt (-1) (fun x2_2 => fX2_worst_6 FU (fun σ_10 x1_10 => some (x1_10, σ_10)) σ x1_1 x2_2 0))
set_option maxRecDepth 100000 in
set_option maxHeartbeats 4000000 in
theorem ctX2_worst (l : Launch) {D : va_G} {cI cZ cO : ClassId} {b : Nat} {σ : Sg} {Rr : (Int32 × Sg)} (hs : fX2_worst σ = some Rr) : MI l yX2_worst cX2_worst 4 (some .int) rmX2_worst [.ref (b + 3)] b D cI cZ cO σ Rr := by
  unfold fX2_worst at hs
  refine metI (by decide +kernel) (Nat.le_of_ble_eq_true rfl) (fun p e s m below meth c ls C G hl => ?_)
  have C : Cx p s m _ meth c cX2_worst RX2 4 (some .int) D cI cZ cO := C
  have hx := C.1
  have hb := C.2.1
  have hl : lv_has ls 4 [(0, .ref (b + 3))] := hl
  refine lv_iconst (v := (-1)) hx hb dX2_worst_0 (by decide) ?_
  refine topI hs (fun x1_1 hs => ?_)
  refine lv_istore_n (lv' := [(1, .int x1_1), (0, .ref (b + 3))]) hx hb dX2_worst_1 rfl hl (by decide) rfl (fun ls hl => ?_)
  refine lv_iconst (v := (-1)) hx hb dX2_worst_2 (by decide) ?_
  refine topI hs (fun x2_2 hs => ?_)
  refine lv_istore_n (lv' := [(2, .int x2_2), (1, .int x1_1), (0, .ref (b + 3))]) hx hb dX2_worst_3 rfl hl (by decide) rfl (fun ls hl => ?_)
  refine lv_iconst (v := 0) hx hb dX2_worst_4 (by decide) ?_
  refine lv_istore_n (lv' := [(3, .int 0), (2, .int x2_2), (1, .int x1_1), (0, .ref (b + 3))]) hx hb dX2_worst_5 rfl hl (by decide) rfl (fun ls hl => ?_)
  refine wX2_worst_6 C (fun σ_10 x1_10 H locs ls hs G hl => ?_) FU _ _ _ _ _ _ _ hs G (lv_sub hl [3, 2, 1, 0] rfl)
  refine lv_iload_n hx hb dX2_worst_48 rfl (lv_at hl 0 rfl) ?_
  exact retI C G hs dX2_worst_49
