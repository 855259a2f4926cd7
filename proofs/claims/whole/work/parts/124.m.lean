-- X12_write
def rmX12_write : Room := { frames := 2, cells := 0, slots := 0, locals := 46 }
def fX12_write (σ : Sg) (x1 : Int32) (x2 : Int32) : Option (Int32 × Sg) :=
  bi (fX12_isPerson σ x1) (fun r_1 σ_1 => (if r_1 = 0 then some ((-1000000001), σ_1) else bi (fX12_in σ_1 x2.toInt64 0 9999) (fun r_3 σ_3 => (if r_3 = 0 then some ((-1000000002), σ_3) else (if (σ_3 132 31) = 15 then some ((-1000000004), σ_3) else (if inb (σ_3 132 31) 15 then lt (st σ_3 147 (σ_3 132 31).toNatClampNeg x1) (fun σ_6 => (if inb (σ_6 132 31) 15 then lt (st σ_6 148 (σ_6 132 31).toNatClampNeg x2) (fun σ_7 => lt (st σ_7 132 31 ((σ_7 132 31) + 1)) (fun σ_8 => some ((σ_8 132 31), σ_8))) else none)) else none))))))
set_option maxRecDepth 100000 in
set_option maxHeartbeats 4000000 in
theorem ctX12_write (l : Launch) {D : va_G} {cI cZ cO : ClassId} {b : Nat} {σ : Sg} {x1 : Int32} {x2 : Int32} {Rr : (Int32 × Sg)} (hs : fX12_write σ x1 x2 = some Rr) : MI l yX12_write cX12_write 3 (some .int) rmX12_write [.ref (b + 132), .int x1, .int x2] b D cI cZ cO σ Rr := by
  unfold fX12_write at hs
  refine metI (by decide +kernel) (Nat.le_of_ble_eq_true rfl) (fun p e s m below meth c ls C G hl => ?_)
  have C : Cx p s m _ meth c cX12_write RX12 3 (some .int) D cI cZ cO := C
  have hx := C.1
  have hb := C.2.1
  have hl : lv_has ls 3 [(0, .ref (b + 132)), (1, .int x1), (2, .int x2)] := hl
  refine lv_aload_n hx hb dX12_write_0 rfl (lv_at hl 0 rfl) ?_
  refine lv_iload_n hx hb dX12_write_1 rfl (lv_at hl 1 rfl) ?_
  obtain ⟨r_1, σ_1, hc, hs⟩ := biE hs
  refine callVI (ar := 1) (As := [.int x1]) (rest := []) C G hl.1 (ctX12_isPerson _  hc) ⟨wd_1107, wd_1109, wd_48, wd_81, wd_1110⟩ (by decide +kernel) rfl ⟨rfl, rfl⟩ ⟨Nat.le_of_ble_eq_true rfl, Nat.le_of_ble_eq_true rfl⟩ (kd_lt kd_132 (by decide)) (ent_12 b cI cZ cO _ kd_132) rfl (Nat.le_of_ble_eq_true rfl) ⟨Nat.le_of_ble_eq_true rfl, Nat.le_of_ble_eq_true rfl⟩ dX12_write_2 rfl (fun H locs G => ?_)
  refine lv_if_ne (tgt := 11) hx hb dX12_write_5 (by decide) (fun c_2 => ?_) (fun c_2 => ?_)
  · replace hs := ifF c_2 hs
    refine lv_iload_n hx hb dX12_write_11 rfl (lv_at hl 2 rfl) ?_
    refine lv_i2l hx hb dX12_write_12 rfl ?_
    refine lv_lconst (v := 0) hx hb dX12_write_13 (by decide) ?_
    refine m_ldc2 C wd_1260 dX12_write_14 ?_
    obtain ⟨r_3, σ_3, hc, hs⟩ := biE hs
    refine callSI (ar := 3) (As := [.long x2.toInt64, .long 0, .long 9999]) (rest := []) C G hl.1 (ctX12_in _  hc) ⟨wd_988, wd_989, wd_81, wd_990⟩ (by decide +kernel) rfl ⟨rfl, rfl⟩ ⟨Nat.le_of_ble_eq_true rfl, Nat.le_of_ble_eq_true rfl⟩ (Nat.le_of_ble_eq_true rfl) ⟨Nat.le_of_ble_eq_true rfl, Nat.le_of_ble_eq_true rfl⟩ dX12_write_17 rfl (fun H locs G => ?_)
    refine lv_if_ne (tgt := 26) hx hb dX12_write_20 (by decide) (fun c_4 => ?_) (fun c_4 => ?_)
    · replace hs := ifF c_4 hs
      refine lv_aload_n hx hb dX12_write_26 rfl (lv_at hl 0 rfl) ?_
      refine gf_X12_147 C G kd_132 dX12_write_27 ?_
      refine lv_bipush (v := 15) hx hb dX12_write_30 (by decide) ?_
      refine lv_icmp_ne (tgt := 38) hx hb dX12_write_32 (by decide) (fun c_5 => ?_) (fun c_5 => ?_)
      · replace hs := ifF c_5 hs
        refine lv_aload_n hx hb dX12_write_38 rfl (lv_at hl 0 rfl) ?_
        refine gf_X12_56 C G kd_132 (n' := 147) rfl dX12_write_39 ?_
        refine lv_aload_n hx hb dX12_write_42 rfl (lv_at hl 0 rfl) ?_
        refine gf_X12_147 C G kd_132 dX12_write_43 ?_
        refine lv_iload_n hx hb dX12_write_46 rfl (lv_at hl 1 rfl) ?_
        obtain ⟨g_6, hs⟩ := gdE hs
        refine m_iast C G kd_147 ln_147 g_6 hs dX12_write_47 (fun σ_6 H locs hs G => ?_)
        refine lv_aload_n hx hb dX12_write_48 rfl (lv_at hl 0 rfl) ?_
        refine gf_X12_59 C G kd_132 (n' := 148) rfl dX12_write_49 ?_
        refine lv_aload_n hx hb dX12_write_52 rfl (lv_at hl 0 rfl) ?_
        refine gf_X12_147 C G kd_132 dX12_write_53 ?_
        refine lv_iload_n hx hb dX12_write_56 rfl (lv_at hl 2 rfl) ?_
        obtain ⟨g_7, hs⟩ := gdE hs
        refine m_iast C G kd_148 ln_148 g_7 hs dX12_write_57 (fun σ_7 H locs hs G => ?_)
        refine lv_aload_n hx hb dX12_write_58 rfl (lv_at hl 0 rfl) ?_
        refine lv_dup hx hb dX12_write_59 rfl ?_
        refine gf_X12_147 C G kd_132 dX12_write_60 ?_
        refine lv_iconst (v := 1) hx hb dX12_write_63 (by decide) ?_
        refine lv_iadd hx hb dX12_write_64 ?_
        refine pf_X12_147 C G kd_132 hs dX12_write_65 (fun σ_8 H locs hs G => ?_)
        refine lv_aload_n hx hb dX12_write_68 rfl (lv_at hl 0 rfl) ?_
        refine gf_X12_147 C G kd_132 dX12_write_69 ?_
        exact retI C G hs dX12_write_72
      · replace hs := ifT c_5 hs
        refine m_ldc C wd_992 dX12_write_35 ?_
        exact retI C G hs dX12_write_37
    · replace hs := ifT c_4 hs
      refine m_ldc C wd_991 dX12_write_23 ?_
      exact retI C G hs dX12_write_25
  · replace hs := ifT c_2 hs
    refine m_ldc C wd_1111 dX12_write_8 ?_
    exact retI C G hs dX12_write_10
-- X12_tear
def rmX12_tear : Room := { frames := 0, cells := 0, slots := 0, locals := 0 }
def fX12_tear (σ : Sg) : Option (Int32 × Sg) :=
  lt ((σ 132 28) + (σ 132 31)) (fun x1_1 => lt (st σ 132 28 0) (fun σ_2 => lt (st σ_2 132 31 0) (fun σ_3 => some (x1_1, σ_3))))
set_option maxRecDepth 100000 in
set_option maxHeartbeats 4000000 in
theorem ctX12_tear (l : Launch) {D : va_G} {cI cZ cO : ClassId} {b : Nat} {σ : Sg} {Rr : (Int32 × Sg)} (hs : fX12_tear σ = some Rr) : MI l yX12_tear cX12_tear 2 (some .int) rmX12_tear [.ref (b + 132)] b D cI cZ cO σ Rr := by
  unfold fX12_tear at hs
  refine metI (by decide +kernel) (Nat.le_of_ble_eq_true rfl) (fun p e s m below meth c ls C G hl => ?_)
  have C : Cx p s m _ meth c cX12_tear RX12 2 (some .int) D cI cZ cO := C
  have hx := C.1
  have hb := C.2.1
  have hl : lv_has ls 2 [(0, .ref (b + 132))] := hl
  refine lv_aload_n hx hb dX12_tear_0 rfl (lv_at hl 0 rfl) ?_
  refine gf_X12_144 C G kd_132 dX12_tear_1 ?_
  refine lv_aload_n hx hb dX12_tear_4 rfl (lv_at hl 0 rfl) ?_
  refine gf_X12_147 C G kd_132 dX12_tear_5 ?_
  refine lv_iadd hx hb dX12_tear_8 ?_
  refine topI hs (fun x1_1 hs => ?_)
  refine lv_istore_n (lv' := [(1, .int x1_1), (0, .ref (b + 132))]) hx hb dX12_tear_9 rfl hl (by decide) rfl (fun ls hl => ?_)
  refine lv_aload_n hx hb dX12_tear_10 rfl (lv_at hl 1 rfl) ?_
  refine lv_iconst (v := 0) hx hb dX12_tear_11 (by decide) ?_
  refine pf_X12_144 C G kd_132 hs dX12_tear_12 (fun σ_2 H locs hs G => ?_)
  refine lv_aload_n hx hb dX12_tear_15 rfl (lv_at hl 1 rfl) ?_
  refine lv_iconst (v := 0) hx hb dX12_tear_16 (by decide) ?_
  refine pf_X12_147 C G kd_132 hs dX12_tear_17 (fun σ_3 H locs hs G => ?_)
  refine lv_iload_n hx hb dX12_tear_20 rfl (lv_at hl 0 rfl) ?_
  exact retI C G hs dX12_tear_21
-- X12_judge
def rmX12_judge : Room := { frames := 0, cells := 0, slots := 0, locals := 0 }
def fX12_judge_2b (kh : Sg → Int32 → Option (Int32 × Sg)) (kx : Sg → Option (Int32 × Sg)) (σ : Sg) (x1 : Int32) : Option (Int32 × Sg) :=
  (if (σ 132 31) ≤ x1 then kx σ else (if inb x1 15 then (if inb (19 + (σ 147 x1.toNatClampNeg)) 60 then (if inb x1 15 then (if (σ 136 (19 + (σ 147 x1.toNatClampNeg)).toNatClampNeg) = (σ 148 x1.toNatClampNeg) then lt (x1 + 1) (fun x1_6 => kh σ x1_6) else some (x1, σ)) else none) else none) else none))
set_option maxRecDepth 100000 in
set_option maxHeartbeats 4000000 in
theorem wX12_judge_2b {p : Program} {l : Launch} {e : Env} {s : State} {m : MethodId} {args : Array Value} {below : List Frame} {meth : Method} {c : Code} {D : va_G} {cI cZ cO : ClassId} {b : Nat} (C : Cx p s m args meth c cX12_judge RX12 2 (some .int) D cI cZ cO) {Rr : (Int32 × Sg)} {kh : Sg → Int32 → Option (Int32 × Sg)} {kx : Sg → Option (Int32 × Sg)} (hh : ∀ (σ : Sg) (x1 : Int32) (H : Heap) (locs : List Loc) (ls : Array Slot), kh σ x1 = some Rr → Gd b D cI cZ cO σ s.heap H locs → lv_has ls 2 [(0, .ref (b + 132)), (1, .int x1)] → W p l e rmX12_judge s m args below meth c H locs 0 0 (MQ below (QI b D cI cZ cO Rr) args s 0 0 (fun q => b ≤ q)) (F0 m 2 ls [])) (hxx : ∀ (σ : Sg) (H : Heap) (locs : List Loc) (ls : Array Slot), kx σ = some Rr → Gd b D cI cZ cO σ s.heap H locs → lv_has ls 2 [] → W p l e rmX12_judge s m args below meth c H locs 0 0 (MQ below (QI b D cI cZ cO Rr) args s 0 0 (fun q => b ≤ q)) (F0 m 41 ls [])) {σ : Sg} {x1 : Int32} {H : Heap} {locs : List Loc} {ls : Array Slot} (hs : fX12_judge_2b kh kx σ x1 = some Rr) (G : Gd b D cI cZ cO σ s.heap H locs) (hl : lv_has ls 2 [(0, .ref (b + 132)), (1, .int x1)]) : W p l e rmX12_judge s m args below meth c H locs 0 0 (MQ below (QI b D cI cZ cO Rr) args s 0 0 (fun q => b ≤ q)) (F0 m 2 ls []) := by
  have hx := C.1
  have hb := C.2.1
  unfold fX12_judge_2b at hs
  refine lv_iload_n hx hb dX12_judge_2 rfl (lv_at hl 1 rfl) ?_
  refine lv_aload_n hx hb dX12_judge_3 rfl (lv_at hl 0 rfl) ?_
  refine gf_X12_147 C G kd_132 dX12_judge_4 ?_
  refine lv_icmp_ge (tgt := 41) hx hb dX12_judge_7 (by decide) (fun c_1 => ?_) (fun c_1 => ?_)
  · replace hs := ifT c_1 hs
    exact hxx _ _ _ _ hs G (lv_sub hl [] rfl)
  · replace hs := ifF c_1 hs
    refine lv_aload_n hx hb dX12_judge_10 rfl (lv_at hl 0 rfl) ?_
    refine gf_X12_19 C G kd_132 (n' := 136) rfl dX12_judge_11 ?_
    refine lv_bipush (v := 19) hx hb dX12_judge_14 (by decide) ?_
    refine lv_aload_n hx hb dX12_judge_16 rfl (lv_at hl 0 rfl) ?_
    refine gf_X12_56 C G kd_132 (n' := 147) rfl dX12_judge_17 ?_
    refine lv_iload_n hx hb dX12_judge_20 rfl (lv_at hl 1 rfl) ?_
    obtain ⟨g_2, hs⟩ := gdE hs
    refine m_iald C G kd_147 ln_147 g_2 dX12_judge_21 ?_
    refine lv_iadd hx hb dX12_judge_22 ?_
    obtain ⟨g_3, hs⟩ := gdE hs
    refine m_iald C G kd_136 ln_136 g_3 dX12_judge_23 ?_
    refine lv_aload_n hx hb dX12_judge_24 rfl (lv_at hl 0 rfl) ?_
    refine gf_X12_59 C G kd_132 (n' := 148) rfl dX12_judge_25 ?_
    refine lv_iload_n hx hb dX12_judge_28 rfl (lv_at hl 1 rfl) ?_
    obtain ⟨g_4, hs⟩ := gdE hs
    refine m_iald C G kd_148 ln_148 g_4 dX12_judge_29 ?_
    refine lv_icmp_eq (tgt := 35) hx hb dX12_judge_30 (by decide) (fun c_5 => ?_) (fun c_5 => ?_)
    · replace hs := ifT c_5 hs
      obtain ⟨x1_6, e_6, hs⟩ := ltE hs
      refine lv_iinc (v := x1_6) (lv' := [(1, .int x1_6), (0, .ref (b + 132))]) hx hb dX12_judge_35 hl (k := 1) rfl (by rw [e_6]; rfl) (by decide) rfl (fun ls hl => ?_)
      refine lv_goto (tgt := 2) hx hb dX12_judge_38 (by decide) ?_
      exact hh _ _ _ _ _ hs G (lv_sub hl [1, 0] rfl)
    · replace hs := ifF c_5 hs
      refine lv_iload_n hx hb dX12_judge_33 rfl (lv_at hl 1 rfl) ?_
      exact retI C G hs dX12_judge_34
def fX12_judge_2 : Nat → (Sg → Option (Int32 × Sg)) → Sg → Int32 → Option (Int32 × Sg)
  | 0, _, _, _ => none
  | fu + 1, kx, σ, x1 => fX12_judge_2b (fX12_judge_2 fu kx) kx σ x1
theorem fX12_judge_2_s (fu : Nat) (kx : Sg → Option (Int32 × Sg)) (σ : Sg) (x1 : Int32) : fX12_judge_2 (fu + 1) kx σ x1 = fX12_judge_2b (fX12_judge_2 fu kx) kx σ x1 := by rw [fX12_judge_2]
theorem wX12_judge_2 {p : Program} {l : Launch} {e : Env} {s : State} {m : MethodId} {args : Array Value} {below : List Frame} {meth : Method} {c : Code} {D : va_G} {cI cZ cO : ClassId} {b : Nat} (C : Cx p s m args meth c cX12_judge RX12 2 (some .int) D cI cZ cO) {Rr : (Int32 × Sg)} {kx : Sg → Option (Int32 × Sg)} (hxx : ∀ (σ : Sg) (H : Heap) (locs : List Loc) (ls : Array Slot), kx σ = some Rr → Gd b D cI cZ cO σ s.heap H locs → lv_has ls 2 [] → W p l e rmX12_judge s m args below meth c H locs 0 0 (MQ below (QI b D cI cZ cO Rr) args s 0 0 (fun q => b ≤ q)) (F0 m 41 ls [])) : ∀ (fu : Nat) (σ : Sg) (x1 : Int32) (H : Heap) (locs : List Loc) (ls : Array Slot), fX12_judge_2 fu kx σ x1 = some Rr → Gd b D cI cZ cO σ s.heap H locs → lv_has ls 2 [(0, .ref (b + 132)), (1, .int x1)] → W p l e rmX12_judge s m args below meth c H locs 0 0 (MQ below (QI b D cI cZ cO Rr) args s 0 0 (fun q => b ≤ q)) (F0 m 2 ls []) := by
  intro fu
  induction fu with
  | zero => intro σ x1 H locs ls hs; cases hs
  | succ fu ih =>
    intro σ x1 H locs ls hs G hl
    exact wX12_judge_2b C (fun σ x1 H locs ls hs G hl => ih σ x1 H locs ls hs G hl) hxx hs G hl
def fX12_judge (σ : Sg) : Option (Int32 × Sg) :=
  fX12_judge_2 FU (fun σ_7 => some ((-1), σ_7)) σ 0
set_option maxRecDepth 100000 in
set_option maxHeartbeats 4000000 in
theorem ctX12_judge (l : Launch) {D : va_G} {cI cZ cO : ClassId} {b : Nat} {σ : Sg} {Rr : (Int32 × Sg)} (hs : fX12_judge σ = some Rr) : MI l yX12_judge cX12_judge 2 (some .int) rmX12_judge [.ref (b + 132)] b D cI cZ cO σ Rr := by
  unfold fX12_judge at hs
  refine metI (by decide +kernel) (Nat.le_of_ble_eq_true rfl) (fun p e s m below meth c ls C G hl => ?_)
  have C : Cx p s m _ meth c cX12_judge RX12 2 (some .int) D cI cZ cO := C
  have hx := C.1
  have hb := C.2.1
  have hl : lv_has ls 2 [(0, .ref (b + 132))] := hl
  refine lv_iconst (v := 0) hx hb dX12_judge_0 (by decide) ?_
  refine lv_istore_n (lv' := [(1, .int 0), (0, .ref (b + 132))]) hx hb dX12_judge_1 rfl hl (by decide) rfl (fun ls hl => ?_)
  refine wX12_judge_2 C (fun σ_7 H locs ls hs G hl => ?_) FU _ _ _ _ _ hs G (lv_sub hl [1, 0] rfl)
  refine lv_iconst (v := (-1)) hx hb dX12_judge_41 (by decide) ?_
  exact retI C G hs dX12_judge_42
-- X12_seed
def rmX12_seed : Room := { frames := 0, cells := 0, slots := 0, locals := 0 }
def fX12_seed (σ : Sg) (x1 : Int32) : Option (Int32 × Sg) :=
  (if 0 ≤ x1 then lt (σ 132 8) (fun x2_2 => lt (st σ 132 8 x1) (fun σ_3 => some (x2_2, σ_3))) else some ((-1000000002), σ))
set_option maxRecDepth 100000 in
set_option maxHeartbeats 4000000 in
theorem ctX12_seed (l : Launch) {D : va_G} {cI cZ cO : ClassId} {b : Nat} {σ : Sg} {x1 : Int32} {Rr : (Int32 × Sg)} (hs : fX12_seed σ x1 = some Rr) : MI l yX12_seed cX12_seed 3 (some .int) rmX12_seed [.ref (b + 132), .int x1] b D cI cZ cO σ Rr := by
  unfold fX12_seed at hs
  refine metI (by decide +kernel) (Nat.le_of_ble_eq_true rfl) (fun p e s m below meth c ls C G hl => ?_)
  have C : Cx p s m _ meth c cX12_seed RX12 3 (some .int) D cI cZ cO := C
  have hx := C.1
  have hb := C.2.1
  have hl : lv_has ls 3 [(0, .ref (b + 132)), (1, .int x1)] := hl
  refine lv_iload_n hx hb dX12_seed_0 rfl (lv_at hl 1 rfl) ?_
  refine lv_if_ge (tgt := 7) hx hb dX12_seed_1 (by decide) (fun c_1 => ?_) (fun c_1 => ?_)
  · replace hs := ifT c_1 hs
    refine lv_aload_n hx hb dX12_seed_7 rfl (lv_at hl 0 rfl) ?_
    refine gf_X12_259 C G kd_132 dX12_seed_8 ?_
    refine topI hs (fun x2_2 hs => ?_)
    refine lv_istore_n (lv' := [(2, .int x2_2), (0, .ref (b + 132)), (1, .int x1)]) hx hb dX12_seed_11 rfl hl (by decide) rfl (fun ls hl => ?_)
    refine lv_aload_n hx hb dX12_seed_12 rfl (lv_at hl 1 rfl) ?_
    refine lv_iload_n hx hb dX12_seed_13 rfl (lv_at hl 2 rfl) ?_
    refine pf_X12_259 C G kd_132 hs dX12_seed_14 (fun σ_3 H locs hs G => ?_)
    refine lv_iload_n hx hb dX12_seed_17 rfl (lv_at hl 0 rfl) ?_
    exact retI C G hs dX12_seed_18
  · replace hs := ifF c_1 hs
    refine m_ldc C wd_991 dX12_seed_4 ?_
    exact retI C G hs dX12_seed_6
-- X12_keep
def rmX12_keep : Room := { frames := 1, cells := 0, slots := 0, locals := 25 }
def fX12_keep_15b (kh : Sg → Int32 → Int32 → Option (Int32 × Sg)) (kx : Sg → Int32 → Option (Int32 × Sg)) (σ : Sg) (x1 : Int32) (x2 : Int32) : Option (Int32 × Sg) :=
  (if 30 ≤ x2 then kx σ x1 else (if inb x2 60 then (if inb ((31 * x1) + x2) 62 then lt (st σ 149 ((31 * x1) + x2).toNatClampNeg (σ 136 x2.toNatClampNeg)) (fun σ_5 => lt (x2 + 1) (fun x2_6 => kh σ_5 x1 x2_6)) else none) else none))
set_option maxRecDepth 100000 in
set_option maxHeartbeats 4000000 in
theorem wX12_keep_15b {p : Program} {l : Launch} {e : Env} {s : State} {m : MethodId} {args : Array Value} {below : List Frame} {meth : Method} {c : Code} {D : va_G} {cI cZ cO : ClassId} {b : Nat} (C : Cx p s m args meth c cX12_keep RX12 3 (some .int) D cI cZ cO) {Rr : (Int32 × Sg)} {kh : Sg → Int32 → Int32 → Option (Int32 × Sg)} {kx : Sg → Int32 → Option (Int32 × Sg)} (hh : ∀ (σ : Sg) (x1 : Int32) (x2 : Int32) (H : Heap) (locs : List Loc) (ls : Array Slot), kh σ x1 x2 = some Rr → Gd b D cI cZ cO σ s.heap H locs → lv_has ls 3 [(0, .ref (b + 132)), (1, .int x1), (2, .int x2)] → W p l e rmX12_keep s m args below meth c H locs 0 0 (MQ below (QI b D cI cZ cO Rr) args s 0 0 (fun q => b ≤ q)) (F0 m 15 ls [])) (hxx : ∀ (σ : Sg) (x1 : Int32) (H : Heap) (locs : List Loc) (ls : Array Slot), kx σ x1 = some Rr → Gd b D cI cZ cO σ s.heap H locs → lv_has ls 3 [(0, .ref (b + 132)), (1, .int x1)] → W p l e rmX12_keep s m args below meth c H locs 0 0 (MQ below (QI b D cI cZ cO Rr) args s 0 0 (fun q => b ≤ q)) (F0 m 44 ls [])) {σ : Sg} {x1 : Int32} {x2 : Int32} {H : Heap} {locs : List Loc} {ls : Array Slot} (hs : fX12_keep_15b kh kx σ x1 x2 = some Rr) (G : Gd b D cI cZ cO σ s.heap H locs) (hl : lv_has ls 3 [(0, .ref (b + 132)), (1, .int x1), (2, .int x2)]) : W p l e rmX12_keep s m args below meth c H locs 0 0 (MQ below (QI b D cI cZ cO Rr) args s 0 0 (fun q => b ≤ q)) (F0 m 15 ls []) := by
  have hx := C.1
  have hb := C.2.1
  unfold fX12_keep_15b at hs
  refine lv_iload_n hx hb dX12_keep_15 rfl (lv_at hl 2 rfl) ?_
  refine lv_bipush (v := 30) hx hb dX12_keep_16 (by decide) ?_
  refine lv_icmp_ge (tgt := 44) hx hb dX12_keep_18 (by decide) (fun c_3 => ?_) (fun c_3 => ?_)
  · replace hs := ifT c_3 hs
    exact hxx _ _ _ _ _ hs G (lv_sub hl [0, 1] rfl)
  · replace hs := ifF c_3 hs
    refine lv_aload_n hx hb dX12_keep_21 rfl (lv_at hl 0 rfl) ?_
    refine gf_X12_62 C G kd_132 (n' := 149) rfl dX12_keep_22 ?_
    refine lv_bipush (v := 31) hx hb dX12_keep_25 (by decide) ?_
    refine lv_iload_n hx hb dX12_keep_27 rfl (lv_at hl 1 rfl) ?_
    refine lv_imul hx hb dX12_keep_28 ?_
    refine lv_iload_n hx hb dX12_keep_29 rfl (lv_at hl 2 rfl) ?_
    refine lv_iadd hx hb dX12_keep_30 ?_
    refine lv_aload_n hx hb dX12_keep_31 rfl (lv_at hl 0 rfl) ?_
    refine gf_X12_19 C G kd_132 (n' := 136) rfl dX12_keep_32 ?_
    refine lv_iload_n hx hb dX12_keep_35 rfl (lv_at hl 2 rfl) ?_
    obtain ⟨g_4, hs⟩ := gdE hs
    refine m_iald C G kd_136 ln_136 g_4 dX12_keep_36 ?_
    obtain ⟨g_5, hs⟩ := gdE hs
    refine m_iast C G kd_149 ln_149 g_5 hs dX12_keep_37 (fun σ_5 H locs hs G => ?_)
    obtain ⟨x2_6, e_6, hs⟩ := ltE hs
    refine lv_iinc (v := x2_6) (lv' := [(2, .int x2_6), (0, .ref (b + 132)), (1, .int x1)]) hx hb dX12_keep_38 hl (k := 2) rfl (by rw [e_6]; rfl) (by decide) rfl (fun ls hl => ?_)
    refine lv_goto (tgt := 15) hx hb dX12_keep_41 (by decide) ?_
    exact hh _ _ _ _ _ _ hs G (lv_sub hl [1, 2, 0] rfl)
def fX12_keep_15 : Nat → (Sg → Int32 → Option (Int32 × Sg)) → Sg → Int32 → Int32 → Option (Int32 × Sg)
  | 0, _, _, _, _ => none
  | fu + 1, kx, σ, x1, x2 => fX12_keep_15b (fX12_keep_15 fu kx) kx σ x1 x2
theorem fX12_keep_15_s (fu : Nat) (kx : Sg → Int32 → Option (Int32 × Sg)) (σ : Sg) (x1 : Int32) (x2 : Int32) : fX12_keep_15 (fu + 1) kx σ x1 x2 = fX12_keep_15b (fX12_keep_15 fu kx) kx σ x1 x2 := by rw [fX12_keep_15]
theorem wX12_keep_15 {p : Program} {l : Launch} {e : Env} {s : State} {m : MethodId} {args : Array Value} {below : List Frame} {meth : Method} {c : Code} {D : va_G} {cI cZ cO : ClassId} {b : Nat} (C : Cx p s m args meth c cX12_keep RX12 3 (some .int) D cI cZ cO) {Rr : (Int32 × Sg)} {kx : Sg → Int32 → Option (Int32 × Sg)} (hxx : ∀ (σ : Sg) (x1 : Int32) (H : Heap) (locs : List Loc) (ls : Array Slot), kx σ x1 = some Rr → Gd b D cI cZ cO σ s.heap H locs → lv_has ls 3 [(0, .ref (b + 132)), (1, .int x1)] → W p l e rmX12_keep s m args below meth c H locs 0 0 (MQ below (QI b D cI cZ cO Rr) args s 0 0 (fun q => b ≤ q)) (F0 m 44 ls [])) : ∀ (fu : Nat) (σ : Sg) (x1 : Int32) (x2 : Int32) (H : Heap) (locs : List Loc) (ls : Array Slot), fX12_keep_15 fu kx σ x1 x2 = some Rr → Gd b D cI cZ cO σ s.heap H locs → lv_has ls 3 [(0, .ref (b + 132)), (1, .int x1), (2, .int x2)] → W p l e rmX12_keep s m args below meth c H locs 0 0 (MQ below (QI b D cI cZ cO Rr) args s 0 0 (fun q => b ≤ q)) (F0 m 15 ls []) := by
  intro fu
  induction fu with
  | zero => intro σ x1 x2 H locs ls hs; cases hs
  | succ fu ih =>
    intro σ x1 x2 H locs ls hs G hl
    exact wX12_keep_15b C (fun σ x1 x2 H locs ls hs G hl => ih σ x1 x2 H locs ls hs G hl) hxx hs G hl
def fX12_keep (σ : Sg) (x1 : Int32) : Option (Int32 × Sg) :=
  bi (fX12_in σ x1.toInt64 0 1) (fun r_1 σ_1 => (if r_1 = 0 then some ((-1000000001), σ_1) else fX12_keep_15 FU (fun σ_7 x1_7 => (if inb ((31 * x1_7) + 30) 62 then lt (st σ_7 149 ((31 * x1_7) + 30).toNatClampNeg (σ_7 132 8)) (fun σ_8 => (if inb x1_7 2 then lt (st σ_8 150 x1_7.toNatClampNeg 1) (fun σ_9 => lt (st σ_9 132 25 0) (fun σ_10 => some (1, σ_10))) else none)) else none)) σ_1 x1 0))
set_option maxRecDepth 100000 in
set_option maxHeartbeats 4000000 in
theorem ctX12_keep (l : Launch) {D : va_G} {cI cZ cO : ClassId} {b : Nat} {σ : Sg} {x1 : Int32} {Rr : (Int32 × Sg)} (hs : fX12_keep σ x1 = some Rr) : MI l yX12_keep cX12_keep 3 (some .int) rmX12_keep [.ref (b + 132), .int x1] b D cI cZ cO σ Rr := by
  unfold fX12_keep at hs
  refine metI (by decide +kernel) (Nat.le_of_ble_eq_true rfl) (fun p e s m below meth c ls C G hl => ?_)
  have C : Cx p s m _ meth c cX12_keep RX12 3 (some .int) D cI cZ cO := C
  have hx := C.1
  have hb := C.2.1
  have hl : lv_has ls 3 [(0, .ref (b + 132)), (1, .int x1)] := hl
  refine lv_iload_n hx hb dX12_keep_0 rfl (lv_at hl 1 rfl) ?_
  refine lv_i2l hx hb dX12_keep_1 rfl ?_
  refine lv_lconst (v := 0) hx hb dX12_keep_2 (by decide) ?_
  refine lv_lconst (v := 1) hx hb dX12_keep_3 (by decide) ?_
  obtain ⟨r_1, σ_1, hc, hs⟩ := biE hs
  refine callSI (ar := 3) (As := [.long x1.toInt64, .long 0, .long 1]) (rest := []) C G hl.1 (ctX12_in _  hc) ⟨wd_988, wd_989, wd_81, wd_990⟩ (by decide +kernel) rfl ⟨rfl, rfl⟩ ⟨Nat.le_of_ble_eq_true rfl, Nat.le_of_ble_eq_true rfl⟩ (Nat.le_of_ble_eq_true rfl) ⟨Nat.le_of_ble_eq_true rfl, Nat.le_of_ble_eq_true rfl⟩ dX12_keep_4 rfl (fun H locs G => ?_)
  refine lv_if_ne (tgt := 13) hx hb dX12_keep_7 (by decide) (fun c_2 => ?_) (fun c_2 => ?_)
  · replace hs := ifF c_2 hs
    refine lv_iconst (v := 0) hx hb dX12_keep_13 (by decide) ?_
    refine lv_istore_n (lv' := [(2, .int 0), (0, .ref (b + 132)), (1, .int x1)]) hx hb dX12_keep_14 rfl hl (by decide) rfl (fun ls hl => ?_)
    refine wX12_keep_15 C (fun σ_7 x1_7 H locs ls hs G hl => ?_) FU _ _ _ _ _ _ hs G (lv_sub hl [1, 2, 0] rfl)
    refine lv_aload_n hx hb dX12_keep_44 rfl (lv_at hl 0 rfl) ?_
    refine gf_X12_62 C G kd_132 (n' := 149) rfl dX12_keep_45 ?_
    refine lv_bipush (v := 31) hx hb dX12_keep_48 (by decide) ?_
    refine lv_iload_n hx hb dX12_keep_50 rfl (lv_at hl 1 rfl) ?_
    refine lv_imul hx hb dX12_keep_51 ?_
    refine lv_bipush (v := 30) hx hb dX12_keep_52 (by decide) ?_
    refine lv_iadd hx hb dX12_keep_54 ?_
    refine lv_aload_n hx hb dX12_keep_55 rfl (lv_at hl 0 rfl) ?_
    refine gf_X12_259 C G kd_132 dX12_keep_56 ?_
    obtain ⟨g_8, hs⟩ := gdE hs
    refine m_iast C G kd_149 ln_149 g_8 hs dX12_keep_59 (fun σ_8 H locs hs G => ?_)
    refine lv_aload_n hx hb dX12_keep_60 rfl (lv_at hl 0 rfl) ?_
    refine gf_X12_65 C G kd_132 (n' := 150) rfl dX12_keep_61 ?_
    refine lv_iload_n hx hb dX12_keep_64 rfl (lv_at hl 1 rfl) ?_
    refine lv_iconst (v := 1) hx hb dX12_keep_65 (by decide) ?_
    obtain ⟨g_9, hs⟩ := gdE hs
    refine m_zast C G kd_150 ln_150 g_9 (by decide) hs dX12_keep_66 (fun σ_9 H locs hs G => ?_)
    refine lv_aload_n hx hb dX12_keep_67 rfl (lv_at hl 0 rfl) ?_
    refine lv_iconst (v := 0) hx hb dX12_keep_68 (by decide) ?_
    refine pf_X12_150 C G kd_132 hs dX12_keep_69 (fun σ_10 H locs hs G => ?_)
    refine lv_iconst (v := 1) hx hb dX12_keep_72 (by decide) ?_
    exact retI C G hs dX12_keep_73
  · replace hs := ifT c_2 hs
    refine m_ldc C wd_1111 dX12_keep_10 ?_
    exact retI C G hs dX12_keep_12
-- X12_goBack
def rmX12_goBack : Room := { frames := 1, cells := 0, slots := 0, locals := 25 }
def fX12_goBack_27b (kh : Sg → Int32 → Int32 → Option (Int32 × Sg)) (kx : Sg → Int32 → Option (Int32 × Sg)) (σ : Sg) (x1 : Int32) (x2 : Int32) : Option (Int32 × Sg) :=
  (if 30 ≤ x2 then kx σ x1 else (if inb ((31 * x1) + x2) 62 then (if inb x2 60 then lt (st σ 136 x2.toNatClampNeg (σ 149 ((31 * x1) + x2).toNatClampNeg)) (fun σ_7 => lt (x2 + 1) (fun x2_8 => kh σ_7 x1 x2_8)) else none) else none))
set_option maxRecDepth 100000 in
set_option maxHeartbeats 4000000 in
theorem wX12_goBack_27b {p : Program} {l : Launch} {e : Env} {s : State} {m : MethodId} {args : Array Value} {below : List Frame} {meth : Method} {c : Code} {D : va_G} {cI cZ cO : ClassId} {b : Nat} (C : Cx p s m args meth c cX12_goBack RX12 3 (some .int) D cI cZ cO) {Rr : (Int32 × Sg)} {kh : Sg → Int32 → Int32 → Option (Int32 × Sg)} {kx : Sg → Int32 → Option (Int32 × Sg)} (hh : ∀ (σ : Sg) (x1 : Int32) (x2 : Int32) (H : Heap) (locs : List Loc) (ls : Array Slot), kh σ x1 x2 = some Rr → Gd b D cI cZ cO σ s.heap H locs → lv_has ls 3 [(0, .ref (b + 132)), (1, .int x1), (2, .int x2)] → W p l e rmX12_goBack s m args below meth c H locs 0 0 (MQ below (QI b D cI cZ cO Rr) args s 0 0 (fun q => b ≤ q)) (F0 m 27 ls [])) (hxx : ∀ (σ : Sg) (x1 : Int32) (H : Heap) (locs : List Loc) (ls : Array Slot), kx σ x1 = some Rr → Gd b D cI cZ cO σ s.heap H locs → lv_has ls 3 [(0, .ref (b + 132)), (1, .int x1)] → W p l e rmX12_goBack s m args below meth c H locs 0 0 (MQ below (QI b D cI cZ cO Rr) args s 0 0 (fun q => b ≤ q)) (F0 m 56 ls [])) {σ : Sg} {x1 : Int32} {x2 : Int32} {H : Heap} {locs : List Loc} {ls : Array Slot} (hs : fX12_goBack_27b kh kx σ x1 x2 = some Rr) (G : Gd b D cI cZ cO σ s.heap H locs) (hl : lv_has ls 3 [(0, .ref (b + 132)), (1, .int x1), (2, .int x2)]) : W p l e rmX12_goBack s m args below meth c H locs 0 0 (MQ below (QI b D cI cZ cO Rr) args s 0 0 (fun q => b ≤ q)) (F0 m 27 ls []) := by
  have hx := C.1
  have hb := C.2.1
  unfold fX12_goBack_27b at hs
  refine lv_iload_n hx hb dX12_goBack_27 rfl (lv_at hl 2 rfl) ?_
  refine lv_bipush (v := 30) hx hb dX12_goBack_28 (by decide) ?_
  refine lv_icmp_ge (tgt := 56) hx hb dX12_goBack_30 (by decide) (fun c_5 => ?_) (fun c_5 => ?_)
  · replace hs := ifT c_5 hs
    exact hxx _ _ _ _ _ hs G (lv_sub hl [0, 1] rfl)
  · replace hs := ifF c_5 hs
    refine lv_aload_n hx hb dX12_goBack_33 rfl (lv_at hl 0 rfl) ?_
    refine gf_X12_19 C G kd_132 (n' := 136) rfl dX12_goBack_34 ?_
    refine lv_iload_n hx hb dX12_goBack_37 rfl (lv_at hl 2 rfl) ?_
    refine lv_aload_n hx hb dX12_goBack_38 rfl (lv_at hl 0 rfl) ?_
    refine gf_X12_62 C G kd_132 (n' := 149) rfl dX12_goBack_39 ?_
    refine lv_bipush (v := 31) hx hb dX12_goBack_42 (by decide) ?_
    refine lv_iload_n hx hb dX12_goBack_44 rfl (lv_at hl 1 rfl) ?_
    refine lv_imul hx hb dX12_goBack_45 ?_
    refine lv_iload_n hx hb dX12_goBack_46 rfl (lv_at hl 2 rfl) ?_
    refine lv_iadd hx hb dX12_goBack_47 ?_
    obtain ⟨g_6, hs⟩ := gdE hs
    refine m_iald C G kd_149 ln_149 g_6 dX12_goBack_48 ?_
    obtain ⟨g_7, hs⟩ := gdE hs
    refine m_iast C G kd_136 ln_136 g_7 hs dX12_goBack_49 (fun σ_7 H locs hs G => ?_)
    obtain ⟨x2_8, e_8, hs⟩ := ltE hs
    refine lv_iinc (v := x2_8) (lv' := [(2, .int x2_8), (0, .ref (b + 132)), (1, .int x1)]) hx hb dX12_goBack_50 hl (k := 2) rfl (by rw [e_8]; rfl) (by decide) rfl (fun ls hl => ?_)
    refine lv_goto (tgt := 27) hx hb dX12_goBack_53 (by decide) ?_
    exact hh _ _ _ _ _ _ hs G (lv_sub hl [1, 2, 0] rfl)
def fX12_goBack_27 : Nat → (Sg → Int32 → Option (Int32 × Sg)) → Sg → Int32 → Int32 → Option (Int32 × Sg)
  | 0, _, _, _, _ => none
  | fu + 1, kx, σ, x1, x2 => fX12_goBack_27b (fX12_goBack_27 fu kx) kx σ x1 x2
theorem fX12_goBack_27_s (fu : Nat) (kx : Sg → Int32 → Option (Int32 × Sg)) (σ : Sg) (x1 : Int32) (x2 : Int32) : fX12_goBack_27 (fu + 1) kx σ x1 x2 = fX12_goBack_27b (fX12_goBack_27 fu kx) kx σ x1 x2 := by rw [fX12_goBack_27]
theorem wX12_goBack_27 {p : Program} {l : Launch} {e : Env} {s : State} {m : MethodId} {args : Array Value} {below : List Frame} {meth : Method} {c : Code} {D : va_G} {cI cZ cO : ClassId} {b : Nat} (C : Cx p s m args meth c cX12_goBack RX12 3 (some .int) D cI cZ cO) {Rr : (Int32 × Sg)} {kx : Sg → Int32 → Option (Int32 × Sg)} (hxx : ∀ (σ : Sg) (x1 : Int32) (H : Heap) (locs : List Loc) (ls : Array Slot), kx σ x1 = some Rr → Gd b D cI cZ cO σ s.heap H locs → lv_has ls 3 [(0, .ref (b + 132)), (1, .int x1)] → W p l e rmX12_goBack s m args below meth c H locs 0 0 (MQ below (QI b D cI cZ cO Rr) args s 0 0 (fun q => b ≤ q)) (F0 m 56 ls [])) : ∀ (fu : Nat) (σ : Sg) (x1 : Int32) (x2 : Int32) (H : Heap) (locs : List Loc) (ls : Array Slot), fX12_goBack_27 fu kx σ x1 x2 = some Rr → Gd b D cI cZ cO σ s.heap H locs → lv_has ls 3 [(0, .ref (b + 132)), (1, .int x1), (2, .int x2)] → W p l e rmX12_goBack s m args below meth c H locs 0 0 (MQ below (QI b D cI cZ cO Rr) args s 0 0 (fun q => b ≤ q)) (F0 m 27 ls []) := by
  intro fu
  induction fu with
  | zero => intro σ x1 x2 H locs ls hs; cases hs
  | succ fu ih =>
    intro σ x1 x2 H locs ls hs G hl
    exact wX12_goBack_27b C (fun σ x1 x2 H locs ls hs G hl => ih σ x1 x2 H locs ls hs G hl) hxx hs G hl
def fX12_goBack (σ : Sg) (x1 : Int32) : Option (Int32 × Sg) :=
  bi (fX12_in σ x1.toInt64 0 1) (fun r_1 σ_1 => (if r_1 = 0 then some ((-1000000001), σ_1) else (if inb x1 2 then (if (σ_1 150 x1.toNatClampNeg) = 0 then some ((-1000000003), σ_1) else fX12_goBack_27 FU (fun σ_9 x1_9 => (if inb ((31 * x1_9) + 30) 62 then lt (st σ_9 132 8 (σ_9 149 ((31 * x1_9) + 30).toNatClampNeg)) (fun σ_11 => lt (st σ_11 132 25 0) (fun σ_12 => some (1, σ_12))) else none)) σ_1 x1 0) else none)))
set_option maxRecDepth 100000 in
set_option maxHeartbeats 4000000 in
theorem ctX12_goBack (l : Launch) {D : va_G} {cI cZ cO : ClassId} {b : Nat} {σ : Sg} {x1 : Int32} {Rr : (Int32 × Sg)} (hs : fX12_goBack σ x1 = some Rr) : MI l yX12_goBack cX12_goBack 3 (some .int) rmX12_goBack [.ref (b + 132), .int x1] b D cI cZ cO σ Rr := by
  unfold fX12_goBack at hs
  refine metI (by decide +kernel) (Nat.le_of_ble_eq_true rfl) (fun p e s m below meth c ls C G hl => ?_)
  have C : Cx p s m _ meth c cX12_goBack RX12 3 (some .int) D cI cZ cO := C
  have hx := C.1
  have hb := C.2.1
  have hl : lv_has ls 3 [(0, .ref (b + 132)), (1, .int x1)] := hl
  refine lv_iload_n hx hb dX12_goBack_0 rfl (lv_at hl 1 rfl) ?_
  refine lv_i2l hx hb dX12_goBack_1 rfl ?_
  refine lv_lconst (v := 0) hx hb dX12_goBack_2 (by decide) ?_
  refine lv_lconst (v := 1) hx hb dX12_goBack_3 (by decide) ?_
  obtain ⟨r_1, σ_1, hc, hs⟩ := biE hs
  refine callSI (ar := 3) (As := [.long x1.toInt64, .long 0, .long 1]) (rest := []) C G hl.1 (ctX12_in _  hc) ⟨wd_988, wd_989, wd_81, wd_990⟩ (by decide +kernel) rfl ⟨rfl, rfl⟩ ⟨Nat.le_of_ble_eq_true rfl, Nat.le_of_ble_eq_true rfl⟩ (Nat.le_of_ble_eq_true rfl) ⟨Nat.le_of_ble_eq_true rfl, Nat.le_of_ble_eq_true rfl⟩ dX12_goBack_4 rfl (fun H locs G => ?_)
  refine lv_if_ne (tgt := 13) hx hb dX12_goBack_7 (by decide) (fun c_2 => ?_) (fun c_2 => ?_)
  · replace hs := ifF c_2 hs
    refine lv_aload_n hx hb dX12_goBack_13 rfl (lv_at hl 0 rfl) ?_
    refine gf_X12_65 C G kd_132 (n' := 150) rfl dX12_goBack_14 ?_
    refine lv_iload_n hx hb dX12_goBack_17 rfl (lv_at hl 1 rfl) ?_
    obtain ⟨g_3, hs⟩ := gdE hs
    refine m_zald C G kd_150 ln_150 g_3 dX12_goBack_18 ?_
    refine lv_if_ne (tgt := 25) hx hb dX12_goBack_19 (by decide) (fun c_4 => ?_) (fun c_4 => ?_)
    · replace hs := ifF c_4 hs
      refine lv_iconst (v := 0) hx hb dX12_goBack_25 (by decide) ?_
      refine lv_istore_n (lv' := [(2, .int 0), (0, .ref (b + 132)), (1, .int x1)]) hx hb dX12_goBack_26 rfl hl (by decide) rfl (fun ls hl => ?_)
      refine wX12_goBack_27 C (fun σ_9 x1_9 H locs ls hs G hl => ?_) FU _ _ _ _ _ _ hs G (lv_sub hl [1, 2, 0] rfl)
      refine lv_aload_n hx hb dX12_goBack_56 rfl (lv_at hl 0 rfl) ?_
      refine lv_aload_n hx hb dX12_goBack_57 rfl (lv_at hl 0 rfl) ?_
      refine gf_X12_62 C G kd_132 (n' := 149) rfl dX12_goBack_58 ?_
      refine lv_bipush (v := 31) hx hb dX12_goBack_61 (by decide) ?_
      refine lv_iload_n hx hb dX12_goBack_63 rfl (lv_at hl 1 rfl) ?_
      refine lv_imul hx hb dX12_goBack_64 ?_
      refine lv_bipush (v := 30) hx hb dX12_goBack_65 (by decide) ?_
      refine lv_iadd hx hb dX12_goBack_67 ?_
      obtain ⟨g_10, hs⟩ := gdE hs
      refine m_iald C G kd_149 ln_149 g_10 dX12_goBack_68 ?_
      refine pf_X12_259 C G kd_132 hs dX12_goBack_69 (fun σ_11 H locs hs G => ?_)
      refine lv_aload_n hx hb dX12_goBack_72 rfl (lv_at hl 0 rfl) ?_
      refine lv_iconst (v := 0) hx hb dX12_goBack_73 (by decide) ?_
      refine pf_X12_150 C G kd_132 hs dX12_goBack_74 (fun σ_12 H locs hs G => ?_)
      refine lv_iconst (v := 1) hx hb dX12_goBack_77 (by decide) ?_
      exact retI C G hs dX12_goBack_78
    · replace hs := ifT c_4 hs
      refine m_ldc C wd_1169 dX12_goBack_22 ?_
      exact retI C G hs dX12_goBack_24
  · replace hs := ifT c_2 hs
    refine m_ldc C wd_1111 dX12_goBack_10 ?_
    exact retI C G hs dX12_goBack_12
