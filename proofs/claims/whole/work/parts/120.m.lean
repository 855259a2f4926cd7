-- X12_tell
def rmX12_tell : Room := { frames := 2, cells := 0, slots := 0, locals := 46 }
def fX12_tell (σ : Sg) (x1 : Int32) (x2 : Int32) : Option (Int32 × Sg) :=
  bi (fX12_isPerson σ x1) (fun r_1 σ_1 => (if r_1 = 0 then some ((-1000000001), σ_1) else bi (fX12_in σ_1 x2.toInt64 0 99) (fun r_3 σ_3 => (if r_3 = 0 then some ((-1000000002), σ_3) else bv (fX12_remember σ_3) (fun σ_5 => bi (fX12_tells σ_5 x1 x2) (fun r_6 σ_6 => some (r_6, σ_6)))))))
set_option maxRecDepth 100000 in
set_option maxHeartbeats 4000000 in
theorem ctX12_tell (l : Launch) {D : va_G} {cI cZ cO : ClassId} {b : Nat} {σ : Sg} {x1 : Int32} {x2 : Int32} {Rr : (Int32 × Sg)} (hs : fX12_tell σ x1 x2 = some Rr) : MI l yX12_tell cX12_tell 3 (some .int) rmX12_tell [.ref (b + 132), .int x1, .int x2] b D cI cZ cO σ Rr := by
  unfold fX12_tell at hs
  refine metI (by decide +kernel) (Nat.le_of_ble_eq_true rfl) (fun p e s m below meth c ls C G hl => ?_)
  have C : Cx p s m _ meth c cX12_tell RX12 3 (some .int) D cI cZ cO := C
  have hx := C.1
  have hb := C.2.1
  have hl : lv_has ls 3 [(0, .ref (b + 132)), (1, .int x1), (2, .int x2)] := hl
  refine lv_aload_n hx hb dX12_tell_0 rfl (lv_at hl 0 rfl) ?_
  refine lv_iload_n hx hb dX12_tell_1 rfl (lv_at hl 1 rfl) ?_
  obtain ⟨r_1, σ_1, hc, hs⟩ := biE hs
  refine callVI (ar := 1) (As := [.int x1]) (rest := []) C G hl.1 (ctX12_isPerson _  hc) ⟨wd_1107, wd_1109, wd_48, wd_81, wd_1110⟩ (by decide +kernel) rfl ⟨rfl, rfl⟩ ⟨Nat.le_of_ble_eq_true rfl, Nat.le_of_ble_eq_true rfl⟩ (kd_lt kd_132 (by decide)) (ent_12 b cI cZ cO _ kd_132) rfl (Nat.le_of_ble_eq_true rfl) ⟨Nat.le_of_ble_eq_true rfl, Nat.le_of_ble_eq_true rfl⟩ dX12_tell_2 rfl (fun H locs G => ?_)
  refine lv_if_ne (tgt := 11) hx hb dX12_tell_5 (by decide) (fun c_2 => ?_) (fun c_2 => ?_)
  · replace hs := ifF c_2 hs
    refine lv_iload_n hx hb dX12_tell_11 rfl (lv_at hl 2 rfl) ?_
    refine lv_i2l hx hb dX12_tell_12 rfl ?_
    refine lv_lconst (v := 0) hx hb dX12_tell_13 (by decide) ?_
    refine m_ldc2 C wd_1152 dX12_tell_14 ?_
    obtain ⟨r_3, σ_3, hc, hs⟩ := biE hs
    refine callSI (ar := 3) (As := [.long x2.toInt64, .long 0, .long 99]) (rest := []) C G hl.1 (ctX12_in _  hc) ⟨wd_988, wd_989, wd_81, wd_990⟩ (by decide +kernel) rfl ⟨rfl, rfl⟩ ⟨Nat.le_of_ble_eq_true rfl, Nat.le_of_ble_eq_true rfl⟩ (Nat.le_of_ble_eq_true rfl) ⟨Nat.le_of_ble_eq_true rfl, Nat.le_of_ble_eq_true rfl⟩ dX12_tell_17 rfl (fun H locs G => ?_)
    refine lv_if_ne (tgt := 26) hx hb dX12_tell_20 (by decide) (fun c_4 => ?_) (fun c_4 => ?_)
    · replace hs := ifF c_4 hs
      refine lv_aload_n hx hb dX12_tell_26 rfl (lv_at hl 0 rfl) ?_
      obtain ⟨σ_5, hc, hs⟩ := bvE hs
      refine callVV (ar := 0) (As := []) (rest := []) C G hl.1 (ctX12_remember _  hc) ⟨wd_1153, wd_1155, wd_57, wd_81, wd_1156⟩ (by decide +kernel) rfl ⟨rfl, rfl⟩ ⟨Nat.le_of_ble_eq_true rfl, Nat.le_of_ble_eq_true rfl⟩ (kd_lt kd_132 (by decide)) (ent_12 b cI cZ cO _ kd_132) rfl (Nat.le_of_ble_eq_true rfl) ⟨Nat.le_of_ble_eq_true rfl, Nat.le_of_ble_eq_true rfl⟩ dX12_tell_27 rfl (fun H locs G => ?_)
      refine lv_aload_n hx hb dX12_tell_30 rfl (lv_at hl 0 rfl) ?_
      refine lv_iload_n hx hb dX12_tell_31 rfl (lv_at hl 1 rfl) ?_
      refine lv_iload_n hx hb dX12_tell_32 rfl (lv_at hl 2 rfl) ?_
      obtain ⟨r_6, σ_6, hc, hs⟩ := biE hs
      refine callVI (ar := 2) (As := [.int x1, .int x2]) (rest := []) C G hl.1 (ctX12_tells _  hc) ⟨wd_1157, wd_1159, wd_58, wd_81, wd_1160⟩ (by decide +kernel) rfl ⟨rfl, rfl⟩ ⟨Nat.le_of_ble_eq_true rfl, Nat.le_of_ble_eq_true rfl⟩ (kd_lt kd_132 (by decide)) (ent_12 b cI cZ cO _ kd_132) rfl (Nat.le_of_ble_eq_true rfl) ⟨Nat.le_of_ble_eq_true rfl, Nat.le_of_ble_eq_true rfl⟩ dX12_tell_33 rfl (fun H locs G => ?_)
      exact retI C G hs dX12_tell_36
    · replace hs := ifT c_4 hs
      refine m_ldc C wd_991 dX12_tell_23 ?_
      exact retI C G hs dX12_tell_25
  · replace hs := ifT c_2 hs
    refine m_ldc C wd_1111 dX12_tell_8 ?_
    exact retI C G hs dX12_tell_10
-- X12_mayGo
def rmX12_mayGo : Room := { frames := 1, cells := 0, slots := 0, locals := 21 }
def fX12_mayGo_29 (σ : Sg) : Option (Int32 × Sg) :=
  some (0, σ)
set_option maxRecDepth 100000 in
set_option maxHeartbeats 4000000 in
theorem wX12_mayGo_29 {p : Program} {l : Launch} {e : Env} {s : State} {m : MethodId} {args : Array Value} {below : List Frame} {meth : Method} {c : Code} {D : va_G} {cI cZ cO : ClassId} {b : Nat} (C : Cx p s m args meth c cX12_mayGo RX12 3 (some .boolean) D cI cZ cO) {Rr : (Int32 × Sg)} {σ : Sg} {H : Heap} {locs : List Loc} {ls : Array Slot} (hs : fX12_mayGo_29 σ = some Rr) (G : Gd b D cI cZ cO σ s.heap H locs) (hl : lv_has ls 3 []) : W p l e rmX12_mayGo s m args below meth c H locs 0 0 (MQ below (QI b D cI cZ cO Rr) args s 0 0 (fun q => b ≤ q)) (F0 m 29 ls []) := by
  have hx := C.1
  have hb := C.2.1
  unfold fX12_mayGo_29 at hs
  refine lv_iconst (v := 0) hx hb dX12_mayGo_29 (by decide) ?_
  exact retZ C G (by decide) hs dX12_mayGo_30
def fX12_mayGo (σ : Sg) (x1 : Int32) (x2 : Int32) : Option (Int32 × Sg) :=
  (if inb (12 + x1) 60 then (if (σ 136 (12 + x1).toNatClampNeg) ≤ 0 then fX12_mayGo_29 σ else (if inb 3 60 then bi (fX12_has σ (σ 136 (3 : Int32).toNatClampNeg) x2) (fun r_4 σ_4 => (if r_4 = 0 then some (1, σ_4) else fX12_mayGo_29 σ_4)) else none)) else none)
set_option maxRecDepth 100000 in
set_option maxHeartbeats 4000000 in
theorem ctX12_mayGo (l : Launch) {D : va_G} {cI cZ cO : ClassId} {b : Nat} {σ : Sg} {x1 : Int32} {x2 : Int32} {Rr : (Int32 × Sg)} (hs : fX12_mayGo σ x1 x2 = some Rr) : MI l yX12_mayGo cX12_mayGo 3 (some .boolean) rmX12_mayGo [.ref (b + 132), .int x1, .int x2] b D cI cZ cO σ Rr := by
  unfold fX12_mayGo at hs
  refine metI (by decide +kernel) (Nat.le_of_ble_eq_true rfl) (fun p e s m below meth c ls C G hl => ?_)
  have C : Cx p s m _ meth c cX12_mayGo RX12 3 (some .boolean) D cI cZ cO := C
  have hx := C.1
  have hb := C.2.1
  have hl : lv_has ls 3 [(0, .ref (b + 132)), (1, .int x1), (2, .int x2)] := hl
  refine lv_aload_n hx hb dX12_mayGo_0 rfl (lv_at hl 0 rfl) ?_
  refine gf_X12_19 C G kd_132 (n' := 136) rfl dX12_mayGo_1 ?_
  refine lv_bipush (v := 12) hx hb dX12_mayGo_4 (by decide) ?_
  refine lv_iload_n hx hb dX12_mayGo_6 rfl (lv_at hl 1 rfl) ?_
  refine lv_iadd hx hb dX12_mayGo_7 ?_
  obtain ⟨g_1, hs⟩ := gdE hs
  refine m_iald C G kd_136 ln_136 g_1 dX12_mayGo_8 ?_
  refine lv_if_le (tgt := 29) hx hb dX12_mayGo_9 (by decide) (fun c_2 => ?_) (fun c_2 => ?_)
  · replace hs := ifT c_2 hs
    exact wX12_mayGo_29 C   hs G (lv_sub hl [] rfl)
  · replace hs := ifF c_2 hs
    refine lv_aload_n hx hb dX12_mayGo_12 rfl (lv_at hl 0 rfl) ?_
    refine gf_X12_19 C G kd_132 (n' := 136) rfl dX12_mayGo_13 ?_
    refine lv_iconst (v := 3) hx hb dX12_mayGo_16 (by decide) ?_
    obtain ⟨g_3, hs⟩ := gdE hs
    refine m_iald C G kd_136 ln_136 g_3 dX12_mayGo_17 ?_
    refine lv_iload_n hx hb dX12_mayGo_18 rfl (lv_at hl 2 rfl) ?_
    obtain ⟨r_4, σ_4, hc, hs⟩ := biE hs
    refine callSI (ar := 2) (As := [.int (σ 136 (3 : Int32).toNatClampNeg), .int x2]) (rest := []) C G hl.1 (ctX12_has _  hc) ⟨wd_1069, wd_1070, wd_81, wd_1071⟩ (by decide +kernel) rfl ⟨rfl, rfl⟩ ⟨Nat.le_of_ble_eq_true rfl, Nat.le_of_ble_eq_true rfl⟩ (Nat.le_of_ble_eq_true rfl) ⟨Nat.le_of_ble_eq_true rfl, Nat.le_of_ble_eq_true rfl⟩ dX12_mayGo_19 rfl (fun H locs G => ?_)
    refine lv_if_ne (tgt := 29) hx hb dX12_mayGo_22 (by decide) (fun c_5 => ?_) (fun c_5 => ?_)
    · replace hs := ifF c_5 hs
      exact wX12_mayGo_29 C   hs G (lv_sub hl [] rfl)
    · replace hs := ifT c_5 hs
      refine lv_iconst (v := 1) hx hb dX12_mayGo_25 (by decide) ?_
      refine lv_goto (tgt := 30) hx hb dX12_mayGo_26 (by decide) ?_
      exact retZ C G (by decide) hs dX12_mayGo_30
-- X12_answers
def rmX12_answers : Room := { frames := 2, cells := 0, slots := 0, locals := 48 }
def fX12_answers_96 (σ : Sg) (x2 : Int32) (y0 : Int32) (y1 : Int32) (y2 : Int32) : Option Sg :=
  (if inb y2 60 then lt (st σ 136 y2.toNatClampNeg (y1 - y0)) (fun σ_13 => (if inb 3 60 then (if inb 3 60 then lt (st σ_13 136 (3 : Int32).toNatClampNeg ((σ_13 136 (3 : Int32).toNatClampNeg) ||| ((1 : Int32) <<< (x2 &&& 31)))) (fun σ_15 => some σ_15) else none) else none)) else none)
set_option maxRecDepth 100000 in
set_option maxHeartbeats 4000000 in
theorem wX12_answers_96 {p : Program} {l : Launch} {e : Env} {s : State} {m : MethodId} {args : Array Value} {below : List Frame} {meth : Method} {c : Code} {D : va_G} {cI cZ cO : ClassId} {b : Nat} (C : Cx p s m args meth c cX12_answers RX12 6 none D cI cZ cO) {Rr : Sg} {σ : Sg} {x2 : Int32} {y0 : Int32} {y1 : Int32} {y2 : Int32} {H : Heap} {locs : List Loc} {ls : Array Slot} (hs : fX12_answers_96 σ x2 y0 y1 y2 = some Rr) (G : Gd b D cI cZ cO σ s.heap H locs) (hl : lv_has ls 6 [(0, .ref (b + 132)), (2, .int x2)]) : W p l e rmX12_answers s m args below meth c H locs 0 0 (MQ below (QV b D cI cZ cO Rr) args s 0 0 (fun q => b ≤ q)) (F0 m 96 ls [.int y0, .int y1, .int y2, .ref (b + 136)]) := by
  have hx := C.1
  have hb := C.2.1
  unfold fX12_answers_96 at hs
  refine lv_isub hx hb dX12_answers_96 ?_
  obtain ⟨g_13, hs⟩ := gdE hs
  refine m_iast C G kd_136 ln_136 g_13 hs dX12_answers_97 (fun σ_13 H locs hs G => ?_)
  refine lv_aload_n hx hb dX12_answers_98 rfl (lv_at hl 0 rfl) ?_
  refine gf_X12_19 C G kd_132 (n' := 136) rfl dX12_answers_99 ?_
  refine lv_iconst (v := 3) hx hb dX12_answers_102 (by decide) ?_
  refine lv_dup2_11 hx hb dX12_answers_103 rfl rfl ?_
  obtain ⟨g_14, hs⟩ := gdE hs
  refine m_iald C G kd_136 ln_136 g_14 dX12_answers_104 ?_
  refine lv_iconst (v := 1) hx hb dX12_answers_105 (by decide) ?_
  refine lv_iload_n hx hb dX12_answers_106 rfl (lv_at hl 1 rfl) ?_
  refine lv_ishl hx hb dX12_answers_107 ?_
  refine lv_ior hx hb dX12_answers_108 ?_
  obtain ⟨g_15, hs⟩ := gdE hs
  refine m_iast C G kd_136 ln_136 g_15 hs dX12_answers_109 (fun σ_15 H locs hs G => ?_)
  exact retV C G hs dX12_answers_110
def fX12_answers_73 (σ : Sg) (x2 : Int32) (y0 : Int32) (y1 : Int32) : Option Sg :=
  (if inb y1 60 then lt (st σ 136 y1.toNatClampNeg y0) (fun σ_9 => (if inb 0 60 then (if inb 0 60 then (if (σ_9 136 (0 : Int32).toNatClampNeg) ≤ 1 then fX12_answers_96 σ_9 x2 0 (σ_9 136 (0 : Int32).toNatClampNeg) 0 else fX12_answers_96 σ_9 x2 1 (σ_9 136 (0 : Int32).toNatClampNeg) 0) else none) else none)) else none)
set_option maxRecDepth 100000 in
set_option maxHeartbeats 4000000 in
theorem wX12_answers_73 {p : Program} {l : Launch} {e : Env} {s : State} {m : MethodId} {args : Array Value} {below : List Frame} {meth : Method} {c : Code} {D : va_G} {cI cZ cO : ClassId} {b : Nat} (C : Cx p s m args meth c cX12_answers RX12 6 none D cI cZ cO) {Rr : Sg} {σ : Sg} {x2 : Int32} {y0 : Int32} {y1 : Int32} {H : Heap} {locs : List Loc} {ls : Array Slot} (hs : fX12_answers_73 σ x2 y0 y1 = some Rr) (G : Gd b D cI cZ cO σ s.heap H locs) (hl : lv_has ls 6 [(0, .ref (b + 132)), (2, .int x2)]) : W p l e rmX12_answers s m args below meth c H locs 0 0 (MQ below (QV b D cI cZ cO Rr) args s 0 0 (fun q => b ≤ q)) (F0 m 73 ls [.int y0, .int y1, .ref (b + 136)]) := by
  have hx := C.1
  have hb := C.2.1
  unfold fX12_answers_73 at hs
  obtain ⟨g_9, hs⟩ := gdE hs
  refine m_iast C G kd_136 ln_136 g_9 hs dX12_answers_73 (fun σ_9 H locs hs G => ?_)
  refine lv_aload_n hx hb dX12_answers_74 rfl (lv_at hl 0 rfl) ?_
  refine gf_X12_19 C G kd_132 (n' := 136) rfl dX12_answers_75 ?_
  refine lv_iconst (v := 0) hx hb dX12_answers_78 (by decide) ?_
  refine lv_dup2_11 hx hb dX12_answers_79 rfl rfl ?_
  obtain ⟨g_10, hs⟩ := gdE hs
  refine m_iald C G kd_136 ln_136 g_10 dX12_answers_80 ?_
  refine lv_aload_n hx hb dX12_answers_81 rfl (lv_at hl 0 rfl) ?_
  refine gf_X12_19 C G kd_132 (n' := 136) rfl dX12_answers_82 ?_
  refine lv_iconst (v := 0) hx hb dX12_answers_85 (by decide) ?_
  obtain ⟨g_11, hs⟩ := gdE hs
  refine m_iald C G kd_136 ln_136 g_11 dX12_answers_86 ?_
  refine lv_iconst (v := 1) hx hb dX12_answers_87 (by decide) ?_
  refine lv_icmp_le (tgt := 95) hx hb dX12_answers_88 (by decide) (fun c_12 => ?_) (fun c_12 => ?_)
  · replace hs := ifT c_12 hs
    refine lv_iconst (v := 0) hx hb dX12_answers_95 (by decide) ?_
    exact wX12_answers_96 C   hs G (lv_sub hl [0, 1] rfl)
  · replace hs := ifF c_12 hs
    refine lv_iconst (v := 1) hx hb dX12_answers_91 (by decide) ?_
    refine lv_goto (tgt := 96) hx hb dX12_answers_92 (by decide) ?_
    exact wX12_answers_96 C   hs G (lv_sub hl [0, 1] rfl)
def fX12_answers_49 (σ : Sg) (x2 : Int32) (y0 : Int32) (y1 : Int32) : Option Sg :=
  lt (y1 + y0) (fun x5_7 => (if x5_7 ≤ 9999 then fX12_answers_73 σ x2 x5_7 2 else fX12_answers_73 σ x2 9999 2))
set_option maxRecDepth 100000 in
set_option maxHeartbeats 4000000 in
theorem wX12_answers_49 {p : Program} {l : Launch} {e : Env} {s : State} {m : MethodId} {args : Array Value} {below : List Frame} {meth : Method} {c : Code} {D : va_G} {cI cZ cO : ClassId} {b : Nat} (C : Cx p s m args meth c cX12_answers RX12 6 none D cI cZ cO) {Rr : Sg} {σ : Sg} {x2 : Int32} {y0 : Int32} {y1 : Int32} {H : Heap} {locs : List Loc} {ls : Array Slot} (hs : fX12_answers_49 σ x2 y0 y1 = some Rr) (G : Gd b D cI cZ cO σ s.heap H locs) (hl : lv_has ls 6 [(0, .ref (b + 132)), (2, .int x2)]) : W p l e rmX12_answers s m args below meth c H locs 0 0 (MQ below (QV b D cI cZ cO Rr) args s 0 0 (fun q => b ≤ q)) (F0 m 49 ls [.int y0, .int y1]) := by
  have hx := C.1
  have hb := C.2.1
  unfold fX12_answers_49 at hs
  refine lv_iadd hx hb dX12_answers_49 ?_
  refine topI hs (fun x5_7 hs => ?_)
  refine lv_istore (lv' := [(5, .int x5_7), (0, .ref (b + 132)), (2, .int x2)]) hx hb dX12_answers_50 hl (by decide) rfl (fun ls hl => ?_)
  refine lv_aload_n hx hb dX12_answers_52 rfl (lv_at hl 1 rfl) ?_
  refine gf_X12_19 C G kd_132 (n' := 136) rfl dX12_answers_53 ?_
  refine lv_iconst (v := 2) hx hb dX12_answers_56 (by decide) ?_
  refine lv_iload hx hb dX12_answers_57 (lv_at hl 0 rfl) ?_
  refine lv_sipush (v := 9999) hx hb dX12_answers_59 (by decide) ?_
  refine lv_icmp_le (tgt := 71) hx hb dX12_answers_62 (by decide) (fun c_8 => ?_) (fun c_8 => ?_)
  · replace hs := ifT c_8 hs
    refine lv_iload hx hb dX12_answers_71 (lv_at hl 0 rfl) ?_
    exact wX12_answers_73 C   hs G (lv_sub hl [1, 2] rfl)
  · replace hs := ifF c_8 hs
    refine lv_sipush (v := 9999) hx hb dX12_answers_65 (by decide) ?_
    refine lv_goto (tgt := 73) hx hb dX12_answers_68 (by decide) ?_
    exact wX12_answers_73 C   hs G (lv_sub hl [1, 2] rfl)
def fX12_answers (σ : Sg) (x1 : Int32) (x2 : Int32) : Option Sg :=
  (if inb (12 + x1) 60 then lt (σ 136 (12 + x1).toNatClampNeg) (fun x3_2 => bi (fX12_bargain σ x2 x3_2) (fun r_3 σ_3 => (if inb (12 + x1) 60 then lt (st σ_3 136 (12 + x1).toNatClampNeg r_3) (fun σ_4 => (if inb 2 60 then (if x3_2 ≤ r_3 then fX12_answers_49 σ_4 x2 0 (σ_4 136 (2 : Int32).toNatClampNeg) else fX12_answers_49 σ_4 x2 (x3_2 - r_3) (σ_4 136 (2 : Int32).toNatClampNeg)) else none)) else none))) else none)
set_option maxRecDepth 100000 in
set_option maxHeartbeats 4000000 in
theorem ctX12_answers (l : Launch) {D : va_G} {cI cZ cO : ClassId} {b : Nat} {σ : Sg} {x1 : Int32} {x2 : Int32} {Rr : Sg} (hs : fX12_answers σ x1 x2 = some Rr) : MV l yX12_answers cX12_answers 6 rmX12_answers [.ref (b + 132), .int x1, .int x2] b D cI cZ cO σ Rr := by
  unfold fX12_answers at hs
  refine metV (by decide +kernel) (Nat.le_of_ble_eq_true rfl) (fun p e s m below meth c ls C G hl => ?_)
  have C : Cx p s m _ meth c cX12_answers RX12 6 none D cI cZ cO := C
  have hx := C.1
  have hb := C.2.1
  have hl : lv_has ls 6 [(0, .ref (b + 132)), (1, .int x1), (2, .int x2)] := hl
  refine lv_aload_n hx hb dX12_answers_0 rfl (lv_at hl 0 rfl) ?_
  refine gf_X12_19 C G kd_132 (n' := 136) rfl dX12_answers_1 ?_
  refine lv_bipush (v := 12) hx hb dX12_answers_4 (by decide) ?_
  refine lv_iload_n hx hb dX12_answers_6 rfl (lv_at hl 1 rfl) ?_
  refine lv_iadd hx hb dX12_answers_7 ?_
  obtain ⟨g_1, hs⟩ := gdE hs
  refine m_iald C G kd_136 ln_136 g_1 dX12_answers_8 ?_
  refine topI hs (fun x3_2 hs => ?_)
  refine lv_istore_n (lv' := [(3, .int x3_2), (0, .ref (b + 132)), (1, .int x1), (2, .int x2)]) hx hb dX12_answers_9 rfl hl (by decide) rfl (fun ls hl => ?_)
  refine lv_aload_n hx hb dX12_answers_10 rfl (lv_at hl 1 rfl) ?_
  refine lv_iload_n hx hb dX12_answers_11 rfl (lv_at hl 3 rfl) ?_
  refine lv_iload_n hx hb dX12_answers_12 rfl (lv_at hl 0 rfl) ?_
  obtain ⟨r_3, σ_3, hc, hs⟩ := biE hs
  refine callVI (ar := 2) (As := [.int x2, .int x3_2]) (rest := []) C G hl.1 (ctX12_bargain _  hc) ⟨wd_1116, wd_1118, wd_50, wd_81, wd_1119⟩ (by decide +kernel) rfl ⟨rfl, rfl⟩ ⟨Nat.le_of_ble_eq_true rfl, Nat.le_of_ble_eq_true rfl⟩ (kd_lt kd_132 (by decide)) (ent_12 b cI cZ cO _ kd_132) rfl (Nat.le_of_ble_eq_true rfl) ⟨Nat.le_of_ble_eq_true rfl, Nat.le_of_ble_eq_true rfl⟩ dX12_answers_13 rfl (fun H locs G => ?_)
  refine lv_istore (lv' := [(4, .int r_3), (3, .int x3_2), (0, .ref (b + 132)), (1, .int x1), (2, .int x2)]) hx hb dX12_answers_16 hl (by decide) rfl (fun ls hl => ?_)
  refine lv_aload_n hx hb dX12_answers_18 rfl (lv_at hl 2 rfl) ?_
  refine gf_X12_19 C G kd_132 (n' := 136) rfl dX12_answers_19 ?_
  refine lv_bipush (v := 12) hx hb dX12_answers_22 (by decide) ?_
  refine lv_iload_n hx hb dX12_answers_24 rfl (lv_at hl 3 rfl) ?_
  refine lv_iadd hx hb dX12_answers_25 ?_
  refine lv_iload hx hb dX12_answers_26 (lv_at hl 0 rfl) ?_
  obtain ⟨g_4, hs⟩ := gdE hs
  refine m_iast C G kd_136 ln_136 g_4 hs dX12_answers_28 (fun σ_4 H locs hs G => ?_)
  refine lv_aload_n hx hb dX12_answers_29 rfl (lv_at hl 2 rfl) ?_
  refine gf_X12_19 C G kd_132 (n' := 136) rfl dX12_answers_30 ?_
  refine lv_iconst (v := 2) hx hb dX12_answers_33 (by decide) ?_
  obtain ⟨g_5, hs⟩ := gdE hs
  refine m_iald C G kd_136 ln_136 g_5 dX12_answers_34 ?_
  refine lv_iload_n hx hb dX12_answers_35 rfl (lv_at hl 1 rfl) ?_
  refine lv_iload hx hb dX12_answers_36 (lv_at hl 0 rfl) ?_
  refine lv_icmp_le (tgt := 48) hx hb dX12_answers_38 (by decide) (fun c_6 => ?_) (fun c_6 => ?_)
  · replace hs := ifT c_6 hs
    refine lv_iconst (v := 0) hx hb dX12_answers_48 (by decide) ?_
    exact wX12_answers_49 C   hs G (lv_sub hl [2, 4] rfl)
  · replace hs := ifF c_6 hs
    refine lv_iload_n hx hb dX12_answers_41 rfl (lv_at hl 1 rfl) ?_
    refine lv_iload hx hb dX12_answers_42 (lv_at hl 0 rfl) ?_
    refine lv_isub hx hb dX12_answers_44 ?_
    refine lv_goto (tgt := 49) hx hb dX12_answers_45 (by decide) ?_
    exact wX12_answers_49 C   hs G (lv_sub hl [2, 4] rfl)
-- X12_answer
def rmX12_answer : Room := { frames := 3, cells := 0, slots := 0, locals := 73 }
def fX12_answer_16 (σ : Sg) : Option (Int32 × Sg) :=
  some ((-1000000001), σ)
set_option maxRecDepth 100000 in
set_option maxHeartbeats 4000000 in
theorem wX12_answer_16 {p : Program} {l : Launch} {e : Env} {s : State} {m : MethodId} {args : Array Value} {below : List Frame} {meth : Method} {c : Code} {D : va_G} {cI cZ cO : ClassId} {b : Nat} (C : Cx p s m args meth c cX12_answer RX12 3 (some .int) D cI cZ cO) {Rr : (Int32 × Sg)} {σ : Sg} {H : Heap} {locs : List Loc} {ls : Array Slot} (hs : fX12_answer_16 σ = some Rr) (G : Gd b D cI cZ cO σ s.heap H locs) (hl : lv_has ls 3 []) : W p l e rmX12_answer s m args below meth c H locs 0 0 (MQ below (QI b D cI cZ cO Rr) args s 0 0 (fun q => b ≤ q)) (F0 m 16 ls []) := by
  have hx := C.1
  have hb := C.2.1
  unfold fX12_answer_16 at hs
  refine m_ldc C wd_1111 dX12_answer_16 ?_
  exact retI C G hs dX12_answer_18
def fX12_answer (σ : Sg) (x1 : Int32) (x2 : Int32) : Option (Int32 × Sg) :=
  bi (fX12_isPerson σ x1) (fun r_1 σ_1 => (if r_1 = 0 then fX12_answer_16 σ_1 else bi (fX12_isPerson σ_1 x2) (fun r_3 σ_3 => (if r_3 = 0 then fX12_answer_16 σ_3 else bi (fX12_mayGo σ_3 x1 x2) (fun r_5 σ_5 => (if r_5 = 0 then some ((-1000000003), σ_5) else bv (fX12_remember σ_5) (fun σ_7 => bv (fX12_answers σ_7 x1 x2) (fun σ_8 => (if inb (12 + x1) 60 then some ((σ_8 136 (12 + x1).toNatClampNeg), σ_8) else none)))))))))
set_option maxRecDepth 100000 in
set_option maxHeartbeats 4000000 in
theorem ctX12_answer (l : Launch) {D : va_G} {cI cZ cO : ClassId} {b : Nat} {σ : Sg} {x1 : Int32} {x2 : Int32} {Rr : (Int32 × Sg)} (hs : fX12_answer σ x1 x2 = some Rr) : MI l yX12_answer cX12_answer 3 (some .int) rmX12_answer [.ref (b + 132), .int x1, .int x2] b D cI cZ cO σ Rr := by
  unfold fX12_answer at hs
  refine metI (by decide +kernel) (Nat.le_of_ble_eq_true rfl) (fun p e s m below meth c ls C G hl => ?_)
  have C : Cx p s m _ meth c cX12_answer RX12 3 (some .int) D cI cZ cO := C
  have hx := C.1
  have hb := C.2.1
  have hl : lv_has ls 3 [(0, .ref (b + 132)), (1, .int x1), (2, .int x2)] := hl
  refine lv_aload_n hx hb dX12_answer_0 rfl (lv_at hl 0 rfl) ?_
  refine lv_iload_n hx hb dX12_answer_1 rfl (lv_at hl 1 rfl) ?_
  obtain ⟨r_1, σ_1, hc, hs⟩ := biE hs
  refine callVI (ar := 1) (As := [.int x1]) (rest := []) C G hl.1 (ctX12_isPerson _  hc) ⟨wd_1107, wd_1109, wd_48, wd_81, wd_1110⟩ (by decide +kernel) rfl ⟨rfl, rfl⟩ ⟨Nat.le_of_ble_eq_true rfl, Nat.le_of_ble_eq_true rfl⟩ (kd_lt kd_132 (by decide)) (ent_12 b cI cZ cO _ kd_132) rfl (Nat.le_of_ble_eq_true rfl) ⟨Nat.le_of_ble_eq_true rfl, Nat.le_of_ble_eq_true rfl⟩ dX12_answer_2 rfl (fun H locs G => ?_)
  refine lv_if_eq (tgt := 16) hx hb dX12_answer_5 (by decide) (fun c_2 => ?_) (fun c_2 => ?_)
  · replace hs := ifT c_2 hs
    exact wX12_answer_16 C   hs G (lv_sub hl [] rfl)
  · replace hs := ifF c_2 hs
    refine lv_aload_n hx hb dX12_answer_8 rfl (lv_at hl 0 rfl) ?_
    refine lv_iload_n hx hb dX12_answer_9 rfl (lv_at hl 2 rfl) ?_
    obtain ⟨r_3, σ_3, hc, hs⟩ := biE hs
    refine callVI (ar := 1) (As := [.int x2]) (rest := []) C G hl.1 (ctX12_isPerson _  hc) ⟨wd_1107, wd_1109, wd_48, wd_81, wd_1110⟩ (by decide +kernel) rfl ⟨rfl, rfl⟩ ⟨Nat.le_of_ble_eq_true rfl, Nat.le_of_ble_eq_true rfl⟩ (kd_lt kd_132 (by decide)) (ent_12 b cI cZ cO _ kd_132) rfl (Nat.le_of_ble_eq_true rfl) ⟨Nat.le_of_ble_eq_true rfl, Nat.le_of_ble_eq_true rfl⟩ dX12_answer_10 rfl (fun H locs G => ?_)
    refine lv_if_ne (tgt := 19) hx hb dX12_answer_13 (by decide) (fun c_4 => ?_) (fun c_4 => ?_)
    · replace hs := ifF c_4 hs
      refine lv_aload_n hx hb dX12_answer_19 rfl (lv_at hl 0 rfl) ?_
      refine lv_iload_n hx hb dX12_answer_20 rfl (lv_at hl 1 rfl) ?_
      refine lv_iload_n hx hb dX12_answer_21 rfl (lv_at hl 2 rfl) ?_
      obtain ⟨r_5, σ_5, hc, hs⟩ := biE hs
      refine callVI (ar := 2) (As := [.int x1, .int x2]) (rest := []) C G hl.1 (ctX12_mayGo _  hc) ⟨wd_1165, wd_1167, wd_59, wd_81, wd_1168⟩ (by decide +kernel) rfl ⟨rfl, rfl⟩ ⟨Nat.le_of_ble_eq_true rfl, Nat.le_of_ble_eq_true rfl⟩ (kd_lt kd_132 (by decide)) (ent_12 b cI cZ cO _ kd_132) rfl (Nat.le_of_ble_eq_true rfl) ⟨Nat.le_of_ble_eq_true rfl, Nat.le_of_ble_eq_true rfl⟩ dX12_answer_22 rfl (fun H locs G => ?_)
      refine lv_if_ne (tgt := 31) hx hb dX12_answer_25 (by decide) (fun c_6 => ?_) (fun c_6 => ?_)
      · replace hs := ifF c_6 hs
        refine lv_aload_n hx hb dX12_answer_31 rfl (lv_at hl 0 rfl) ?_
        obtain ⟨σ_7, hc, hs⟩ := bvE hs
        refine callVV (ar := 0) (As := []) (rest := []) C G hl.1 (ctX12_remember _  hc) ⟨wd_1153, wd_1155, wd_57, wd_81, wd_1156⟩ (by decide +kernel) rfl ⟨rfl, rfl⟩ ⟨Nat.le_of_ble_eq_true rfl, Nat.le_of_ble_eq_true rfl⟩ (kd_lt kd_132 (by decide)) (ent_12 b cI cZ cO _ kd_132) rfl (Nat.le_of_ble_eq_true rfl) ⟨Nat.le_of_ble_eq_true rfl, Nat.le_of_ble_eq_true rfl⟩ dX12_answer_32 rfl (fun H locs G => ?_)
        refine lv_aload_n hx hb dX12_answer_35 rfl (lv_at hl 0 rfl) ?_
        refine lv_iload_n hx hb dX12_answer_36 rfl (lv_at hl 1 rfl) ?_
        refine lv_iload_n hx hb dX12_answer_37 rfl (lv_at hl 2 rfl) ?_
        obtain ⟨σ_8, hc, hs⟩ := bvE hs
        refine callVV (ar := 2) (As := [.int x1, .int x2]) (rest := []) C G hl.1 (ctX12_answers _  hc) ⟨wd_1170, wd_1172, wd_60, wd_81, wd_1173⟩ (by decide +kernel) rfl ⟨rfl, rfl⟩ ⟨Nat.le_of_ble_eq_true rfl, Nat.le_of_ble_eq_true rfl⟩ (kd_lt kd_132 (by decide)) (ent_12 b cI cZ cO _ kd_132) rfl (Nat.le_of_ble_eq_true rfl) ⟨Nat.le_of_ble_eq_true rfl, Nat.le_of_ble_eq_true rfl⟩ dX12_answer_38 rfl (fun H locs G => ?_)
        refine lv_aload_n hx hb dX12_answer_41 rfl (lv_at hl 0 rfl) ?_
        refine gf_X12_19 C G kd_132 (n' := 136) rfl dX12_answer_42 ?_
        refine lv_bipush (v := 12) hx hb dX12_answer_45 (by decide) ?_
        refine lv_iload_n hx hb dX12_answer_47 rfl (lv_at hl 1 rfl) ?_
        refine lv_iadd hx hb dX12_answer_48 ?_
        obtain ⟨g_9, hs⟩ := gdE hs
        refine m_iald C G kd_136 ln_136 g_9 dX12_answer_49 ?_
        exact retI C G hs dX12_answer_50
      · replace hs := ifT c_6 hs
        refine m_ldc C wd_1169 dX12_answer_28 ?_
        exact retI C G hs dX12_answer_30
    · replace hs := ifT c_4 hs
      exact wX12_answer_16 C   hs G (lv_sub hl [] rfl)
-- X12_year
def rmX12_year : Room := { frames := 3, cells := 0, slots := 0, locals := 73 }
def fX12_year_46b (kh : Sg → Int32 → Int32 → Option (Int32 × Sg)) (kx : Sg → Option (Int32 × Sg)) (σ : Sg) (x1 : Int32) (x2 : Int32) : Option (Int32 × Sg) :=
  (if x1 ≤ x2 then kx σ else bv (fX12_yearOf σ 0) (fun σ_9 => lt (x2 + 1) (fun x2_10 => kh σ_9 x1 x2_10)))
set_option maxRecDepth 100000 in
set_option maxHeartbeats 4000000 in
theorem wX12_year_46b {p : Program} {l : Launch} {e : Env} {s : State} {m : MethodId} {args : Array Value} {below : List Frame} {meth : Method} {c : Code} {D : va_G} {cI cZ cO : ClassId} {b : Nat} (C : Cx p s m args meth c cX12_year RX12 3 (some .int) D cI cZ cO) {Rr : (Int32 × Sg)} {kh : Sg → Int32 → Int32 → Option (Int32 × Sg)} {kx : Sg → Option (Int32 × Sg)} (hh : ∀ (σ : Sg) (x1 : Int32) (x2 : Int32) (H : Heap) (locs : List Loc) (ls : Array Slot), kh σ x1 x2 = some Rr → Gd b D cI cZ cO σ s.heap H locs → lv_has ls 3 [(0, .ref (b + 132)), (1, .int x1), (2, .int x2)] → W p l e rmX12_year s m args below meth c H locs 0 0 (MQ below (QI b D cI cZ cO Rr) args s 0 0 (fun q => b ≤ q)) (F0 m 46 ls [])) (hxx : ∀ (σ : Sg) (H : Heap) (locs : List Loc) (ls : Array Slot), kx σ = some Rr → Gd b D cI cZ cO σ s.heap H locs → lv_has ls 3 [(0, .ref (b + 132))] → W p l e rmX12_year s m args below meth c H locs 0 0 (MQ below (QI b D cI cZ cO Rr) args s 0 0 (fun q => b ≤ q)) (F0 m 62 ls [])) {σ : Sg} {x1 : Int32} {x2 : Int32} {H : Heap} {locs : List Loc} {ls : Array Slot} (hs : fX12_year_46b kh kx σ x1 x2 = some Rr) (G : Gd b D cI cZ cO σ s.heap H locs) (hl : lv_has ls 3 [(0, .ref (b + 132)), (1, .int x1), (2, .int x2)]) : W p l e rmX12_year s m args below meth c H locs 0 0 (MQ below (QI b D cI cZ cO Rr) args s 0 0 (fun q => b ≤ q)) (F0 m 46 ls []) := by
  have hx := C.1
  have hb := C.2.1
  unfold fX12_year_46b at hs
  refine lv_iload_n hx hb dX12_year_46 rfl (lv_at hl 2 rfl) ?_
  refine lv_iload_n hx hb dX12_year_47 rfl (lv_at hl 1 rfl) ?_
  refine lv_icmp_ge (tgt := 62) hx hb dX12_year_48 (by decide) (fun c_8 => ?_) (fun c_8 => ?_)
  · replace hs := ifT c_8 hs
    exact hxx _ _ _ _ hs G (lv_sub hl [0] rfl)
  · replace hs := ifF c_8 hs
    refine lv_aload_n hx hb dX12_year_51 rfl (lv_at hl 0 rfl) ?_
    refine lv_iconst (v := 0) hx hb dX12_year_52 (by decide) ?_
    obtain ⟨σ_9, hc, hs⟩ := bvE hs
    refine callVV (ar := 1) (As := [.int 0]) (rest := []) C G hl.1 (ctX12_yearOf _  hc) ⟨wd_1053, wd_1055, wd_37, wd_81, wd_1056⟩ (by decide +kernel) rfl ⟨rfl, rfl⟩ ⟨Nat.le_of_ble_eq_true rfl, Nat.le_of_ble_eq_true rfl⟩ (kd_lt kd_132 (by decide)) (ent_12 b cI cZ cO _ kd_132) rfl (Nat.le_of_ble_eq_true rfl) ⟨Nat.le_of_ble_eq_true rfl, Nat.le_of_ble_eq_true rfl⟩ dX12_year_53 rfl (fun H locs G => ?_)
    obtain ⟨x2_10, e_10, hs⟩ := ltE hs
    refine lv_iinc (v := x2_10) (lv' := [(2, .int x2_10), (0, .ref (b + 132)), (1, .int x1)]) hx hb dX12_year_56 hl (k := 2) rfl (by rw [e_10]; rfl) (by decide) rfl (fun ls hl => ?_)
    refine lv_goto (tgt := 46) hx hb dX12_year_59 (by decide) ?_
    exact hh _ _ _ _ _ _ hs G (lv_sub hl [1, 2, 0] rfl)
def fX12_year_46 : Nat → (Sg → Option (Int32 × Sg)) → Sg → Int32 → Int32 → Option (Int32 × Sg)
  | 0, _, _, _, _ => none
  | fu + 1, kx, σ, x1, x2 => fX12_year_46b (fX12_year_46 fu kx) kx σ x1 x2
theorem fX12_year_46_s (fu : Nat) (kx : Sg → Option (Int32 × Sg)) (σ : Sg) (x1 : Int32) (x2 : Int32) : fX12_year_46 (fu + 1) kx σ x1 x2 = fX12_year_46b (fX12_year_46 fu kx) kx σ x1 x2 := by rw [fX12_year_46]
theorem wX12_year_46 {p : Program} {l : Launch} {e : Env} {s : State} {m : MethodId} {args : Array Value} {below : List Frame} {meth : Method} {c : Code} {D : va_G} {cI cZ cO : ClassId} {b : Nat} (C : Cx p s m args meth c cX12_year RX12 3 (some .int) D cI cZ cO) {Rr : (Int32 × Sg)} {kx : Sg → Option (Int32 × Sg)} (hxx : ∀ (σ : Sg) (H : Heap) (locs : List Loc) (ls : Array Slot), kx σ = some Rr → Gd b D cI cZ cO σ s.heap H locs → lv_has ls 3 [(0, .ref (b + 132))] → W p l e rmX12_year s m args below meth c H locs 0 0 (MQ below (QI b D cI cZ cO Rr) args s 0 0 (fun q => b ≤ q)) (F0 m 62 ls [])) : ∀ (fu : Nat) (σ : Sg) (x1 : Int32) (x2 : Int32) (H : Heap) (locs : List Loc) (ls : Array Slot), fX12_year_46 fu kx σ x1 x2 = some Rr → Gd b D cI cZ cO σ s.heap H locs → lv_has ls 3 [(0, .ref (b + 132)), (1, .int x1), (2, .int x2)] → W p l e rmX12_year s m args below meth c H locs 0 0 (MQ below (QI b D cI cZ cO Rr) args s 0 0 (fun q => b ≤ q)) (F0 m 46 ls []) := by
  intro fu
  induction fu with
  | zero => intro σ x1 x2 H locs ls hs; cases hs
  | succ fu ih =>
    intro σ x1 x2 H locs ls hs G hl
    exact wX12_year_46b C (fun σ x1 x2 H locs ls hs G hl => ih σ x1 x2 H locs ls hs G hl) hxx hs G hl
def fX12_year (σ : Sg) (x1 : Int32) : Option (Int32 × Sg) :=
  bi (fX12_in σ x1.toInt64 1 60) (fun r_1 σ_1 => (if r_1 = 0 then some ((-1000000002), σ_1) else bi (fX12_isHills σ_1) (fun r_3 σ_3 => (if r_3 = 0 then some ((-1000000003), σ_3) else (if inb 1 60 then (if (σ_3 136 (1 : Int32).toNatClampNeg) ≤ 9000 then bv (fX12_remember σ_3) (fun σ_7 => fX12_year_46 FU (fun σ_11 => (if inb 2 60 then some ((σ_11 136 (2 : Int32).toNatClampNeg), σ_11) else none)) σ_7 x1 0) else some ((-1000000004), σ_3)) else none)))))
set_option maxRecDepth 100000 in
set_option maxHeartbeats 4000000 in
theorem ctX12_year (l : Launch) {D : va_G} {cI cZ cO : ClassId} {b : Nat} {σ : Sg} {x1 : Int32} {Rr : (Int32 × Sg)} (hs : fX12_year σ x1 = some Rr) : MI l yX12_year cX12_year 3 (some .int) rmX12_year [.ref (b + 132), .int x1] b D cI cZ cO σ Rr := by
  unfold fX12_year at hs
  refine metI (by decide +kernel) (Nat.le_of_ble_eq_true rfl) (fun p e s m below meth c ls C G hl => ?_)
  have C : Cx p s m _ meth c cX12_year RX12 3 (some .int) D cI cZ cO := C
  have hx := C.1
  have hb := C.2.1
  have hl : lv_has ls 3 [(0, .ref (b + 132)), (1, .int x1)] := hl
  refine lv_iload_n hx hb dX12_year_0 rfl (lv_at hl 1 rfl) ?_
  refine lv_i2l hx hb dX12_year_1 rfl ?_
  refine lv_lconst (v := 1) hx hb dX12_year_2 (by decide) ?_
  refine m_ldc2 C wd_1178 dX12_year_3 ?_
  obtain ⟨r_1, σ_1, hc, hs⟩ := biE hs
  refine callSI (ar := 3) (As := [.long x1.toInt64, .long 1, .long 60]) (rest := []) C G hl.1 (ctX12_in _  hc) ⟨wd_988, wd_989, wd_81, wd_990⟩ (by decide +kernel) rfl ⟨rfl, rfl⟩ ⟨Nat.le_of_ble_eq_true rfl, Nat.le_of_ble_eq_true rfl⟩ (Nat.le_of_ble_eq_true rfl) ⟨Nat.le_of_ble_eq_true rfl, Nat.le_of_ble_eq_true rfl⟩ dX12_year_6 rfl (fun H locs G => ?_)
  refine lv_if_ne (tgt := 15) hx hb dX12_year_9 (by decide) (fun c_2 => ?_) (fun c_2 => ?_)
  · replace hs := ifF c_2 hs
    refine lv_aload_n hx hb dX12_year_15 rfl (lv_at hl 0 rfl) ?_
    obtain ⟨r_3, σ_3, hc, hs⟩ := biE hs
    refine callVI (ar := 0) (As := []) (rest := []) C G hl.1 (ctX12_isHills _  hc) ⟨wd_1091, wd_1093, wd_45, wd_81, wd_1094⟩ (by decide +kernel) rfl ⟨rfl, rfl⟩ ⟨Nat.le_of_ble_eq_true rfl, Nat.le_of_ble_eq_true rfl⟩ (kd_lt kd_132 (by decide)) (ent_12 b cI cZ cO _ kd_132) rfl (Nat.le_of_ble_eq_true rfl) ⟨Nat.le_of_ble_eq_true rfl, Nat.le_of_ble_eq_true rfl⟩ dX12_year_16 rfl (fun H locs G => ?_)
    refine lv_if_ne (tgt := 25) hx hb dX12_year_19 (by decide) (fun c_4 => ?_) (fun c_4 => ?_)
    · replace hs := ifF c_4 hs
      refine lv_aload_n hx hb dX12_year_25 rfl (lv_at hl 0 rfl) ?_
      refine gf_X12_19 C G kd_132 (n' := 136) rfl dX12_year_26 ?_
      refine lv_iconst (v := 1) hx hb dX12_year_29 (by decide) ?_
      obtain ⟨g_5, hs⟩ := gdE hs
      refine m_iald C G kd_136 ln_136 g_5 dX12_year_30 ?_
      refine lv_sipush (v := 9000) hx hb dX12_year_31 (by decide) ?_
      refine lv_icmp_le (tgt := 40) hx hb dX12_year_34 (by decide) (fun c_6 => ?_) (fun c_6 => ?_)
      · replace hs := ifT c_6 hs
        refine lv_aload_n hx hb dX12_year_40 rfl (lv_at hl 0 rfl) ?_
        obtain ⟨σ_7, hc, hs⟩ := bvE hs
        refine callVV (ar := 0) (As := []) (rest := []) C G hl.1 (ctX12_remember _  hc) ⟨wd_1153, wd_1155, wd_57, wd_81, wd_1156⟩ (by decide +kernel) rfl ⟨rfl, rfl⟩ ⟨Nat.le_of_ble_eq_true rfl, Nat.le_of_ble_eq_true rfl⟩ (kd_lt kd_132 (by decide)) (ent_12 b cI cZ cO _ kd_132) rfl (Nat.le_of_ble_eq_true rfl) ⟨Nat.le_of_ble_eq_true rfl, Nat.le_of_ble_eq_true rfl⟩ dX12_year_41 rfl (fun H locs G => ?_)
        refine lv_iconst (v := 0) hx hb dX12_year_44 (by decide) ?_
        refine lv_istore_n (lv' := [(2, .int 0), (0, .ref (b + 132)), (1, .int x1)]) hx hb dX12_year_45 rfl hl (by decide) rfl (fun ls hl => ?_)
        refine wX12_year_46 C (fun σ_11 H locs ls hs G hl => ?_) FU _ _ _ _ _ _ hs G (lv_sub hl [1, 2, 0] rfl)
        refine lv_aload_n hx hb dX12_year_62 rfl (lv_at hl 0 rfl) ?_
        refine gf_X12_19 C G kd_132 (n' := 136) rfl dX12_year_63 ?_
        refine lv_iconst (v := 2) hx hb dX12_year_66 (by decide) ?_
        obtain ⟨g_12, hs⟩ := gdE hs
        refine m_iald C G kd_136 ln_136 g_12 dX12_year_67 ?_
        exact retI C G hs dX12_year_68
      · replace hs := ifF c_6 hs
        refine m_ldc C wd_992 dX12_year_37 ?_
        exact retI C G hs dX12_year_39
    · replace hs := ifT c_4 hs
      refine m_ldc C wd_1169 dX12_year_22 ?_
      exact retI C G hs dX12_year_24
  · replace hs := ifT c_2 hs
    refine m_ldc C wd_991 dX12_year_12 ?_
    exact retI C G hs dX12_year_14
-- X12_wit
def rmX12_wit : Room := { frames := 2, cells := 0, slots := 0, locals := 46 }
def fX12_wit (σ : Sg) (x1 : Int32) (x2 : Int32) : Option (Int32 × Sg) :=
  bi (fX12_isPerson σ x1) (fun r_1 σ_1 => (if r_1 = 0 then some ((-1000000001), σ_1) else bi (fX12_in σ_1 x2.toInt64 1 9) (fun r_3 σ_3 => (if r_3 = 0 then some ((-1000000002), σ_3) else bv (fX12_remember σ_3) (fun σ_5 => (if inb (5 + x1) 60 then lt (σ_5 136 (5 + x1).toNatClampNeg) (fun x3_7 => (if inb (5 + x1) 60 then lt (st σ_5 136 (5 + x1).toNatClampNeg x2) (fun σ_8 => some (x3_7, σ_8)) else none)) else none))))))
set_option maxRecDepth 100000 in
set_option maxHeartbeats 4000000 in
theorem ctX12_wit (l : Launch) {D : va_G} {cI cZ cO : ClassId} {b : Nat} {σ : Sg} {x1 : Int32} {x2 : Int32} {Rr : (Int32 × Sg)} (hs : fX12_wit σ x1 x2 = some Rr) : MI l yX12_wit cX12_wit 4 (some .int) rmX12_wit [.ref (b + 132), .int x1, .int x2] b D cI cZ cO σ Rr := by
  unfold fX12_wit at hs
  refine metI (by decide +kernel) (Nat.le_of_ble_eq_true rfl) (fun p e s m below meth c ls C G hl => ?_)
  have C : Cx p s m _ meth c cX12_wit RX12 4 (some .int) D cI cZ cO := C
  have hx := C.1
  have hb := C.2.1
  have hl : lv_has ls 4 [(0, .ref (b + 132)), (1, .int x1), (2, .int x2)] := hl
  refine lv_aload_n hx hb dX12_wit_0 rfl (lv_at hl 0 rfl) ?_
  refine lv_iload_n hx hb dX12_wit_1 rfl (lv_at hl 1 rfl) ?_
  obtain ⟨r_1, σ_1, hc, hs⟩ := biE hs
  refine callVI (ar := 1) (As := [.int x1]) (rest := []) C G hl.1 (ctX12_isPerson _  hc) ⟨wd_1107, wd_1109, wd_48, wd_81, wd_1110⟩ (by decide +kernel) rfl ⟨rfl, rfl⟩ ⟨Nat.le_of_ble_eq_true rfl, Nat.le_of_ble_eq_true rfl⟩ (kd_lt kd_132 (by decide)) (ent_12 b cI cZ cO _ kd_132) rfl (Nat.le_of_ble_eq_true rfl) ⟨Nat.le_of_ble_eq_true rfl, Nat.le_of_ble_eq_true rfl⟩ dX12_wit_2 rfl (fun H locs G => ?_)
  refine lv_if_ne (tgt := 11) hx hb dX12_wit_5 (by decide) (fun c_2 => ?_) (fun c_2 => ?_)
  · replace hs := ifF c_2 hs
    refine lv_iload_n hx hb dX12_wit_11 rfl (lv_at hl 2 rfl) ?_
    refine lv_i2l hx hb dX12_wit_12 rfl ?_
    refine lv_lconst (v := 1) hx hb dX12_wit_13 (by decide) ?_
    refine m_ldc2 C wd_1183 dX12_wit_14 ?_
    obtain ⟨r_3, σ_3, hc, hs⟩ := biE hs
    refine callSI (ar := 3) (As := [.long x2.toInt64, .long 1, .long 9]) (rest := []) C G hl.1 (ctX12_in _  hc) ⟨wd_988, wd_989, wd_81, wd_990⟩ (by decide +kernel) rfl ⟨rfl, rfl⟩ ⟨Nat.le_of_ble_eq_true rfl, Nat.le_of_ble_eq_true rfl⟩ (Nat.le_of_ble_eq_true rfl) ⟨Nat.le_of_ble_eq_true rfl, Nat.le_of_ble_eq_true rfl⟩ dX12_wit_17 rfl (fun H locs G => ?_)
    refine lv_if_ne (tgt := 26) hx hb dX12_wit_20 (by decide) (fun c_4 => ?_) (fun c_4 => ?_)
    · replace hs := ifF c_4 hs
      refine lv_aload_n hx hb dX12_wit_26 rfl (lv_at hl 0 rfl) ?_
      obtain ⟨σ_5, hc, hs⟩ := bvE hs
      refine callVV (ar := 0) (As := []) (rest := []) C G hl.1 (ctX12_remember _  hc) ⟨wd_1153, wd_1155, wd_57, wd_81, wd_1156⟩ (by decide +kernel) rfl ⟨rfl, rfl⟩ ⟨Nat.le_of_ble_eq_true rfl, Nat.le_of_ble_eq_true rfl⟩ (kd_lt kd_132 (by decide)) (ent_12 b cI cZ cO _ kd_132) rfl (Nat.le_of_ble_eq_true rfl) ⟨Nat.le_of_ble_eq_true rfl, Nat.le_of_ble_eq_true rfl⟩ dX12_wit_27 rfl (fun H locs G => ?_)
      refine lv_aload_n hx hb dX12_wit_30 rfl (lv_at hl 0 rfl) ?_
      refine gf_X12_19 C G kd_132 (n' := 136) rfl dX12_wit_31 ?_
      refine lv_iconst (v := 5) hx hb dX12_wit_34 (by decide) ?_
      refine lv_iload_n hx hb dX12_wit_35 rfl (lv_at hl 1 rfl) ?_
      refine lv_iadd hx hb dX12_wit_36 ?_
      obtain ⟨g_6, hs⟩ := gdE hs
      refine m_iald C G kd_136 ln_136 g_6 dX12_wit_37 ?_
      refine topI hs (fun x3_7 hs => ?_)
      refine lv_istore_n (lv' := [(3, .int x3_7), (0, .ref (b + 132)), (1, .int x1), (2, .int x2)]) hx hb dX12_wit_38 rfl hl (by decide) rfl (fun ls hl => ?_)
      refine lv_aload_n hx hb dX12_wit_39 rfl (lv_at hl 1 rfl) ?_
      refine gf_X12_19 C G kd_132 (n' := 136) rfl dX12_wit_40 ?_
      refine lv_iconst (v := 5) hx hb dX12_wit_43 (by decide) ?_
      refine lv_iload_n hx hb dX12_wit_44 rfl (lv_at hl 2 rfl) ?_
      refine lv_iadd hx hb dX12_wit_45 ?_
      refine lv_iload_n hx hb dX12_wit_46 rfl (lv_at hl 3 rfl) ?_
      obtain ⟨g_8, hs⟩ := gdE hs
      refine m_iast C G kd_136 ln_136 g_8 hs dX12_wit_47 (fun σ_8 H locs hs G => ?_)
      refine lv_iload_n hx hb dX12_wit_48 rfl (lv_at hl 0 rfl) ?_
      exact retI C G hs dX12_wit_49
    · replace hs := ifT c_4 hs
      refine m_ldc C wd_991 dX12_wit_23 ?_
      exact retI C G hs dX12_wit_25
  · replace hs := ifT c_2 hs
    refine m_ldc C wd_1111 dX12_wit_8 ?_
    exact retI C G hs dX12_wit_10
-- X12_bear
def rmX12_bear : Room := { frames := 2, cells := 0, slots := 0, locals := 46 }
def fX12_bear (σ : Sg) (x1 : Int32) (x2 : Int32) : Option (Int32 × Sg) :=
  bi (fX12_isVillage σ x1) (fun r_1 σ_1 => (if r_1 = 0 then some ((-1000000001), σ_1) else bi (fX12_in σ_1 x2.toInt64 0 99) (fun r_3 σ_3 => (if r_3 = 0 then some ((-1000000002), σ_3) else bv (fX12_remember σ_3) (fun σ_5 => (if inb (26 + x1) 60 then lt (σ_5 136 (26 + x1).toNatClampNeg) (fun x3_7 => (if inb (26 + x1) 60 then lt (st σ_5 136 (26 + x1).toNatClampNeg x2) (fun σ_8 => some (x3_7, σ_8)) else none)) else none))))))
set_option maxRecDepth 100000 in
set_option maxHeartbeats 4000000 in
theorem ctX12_bear (l : Launch) {D : va_G} {cI cZ cO : ClassId} {b : Nat} {σ : Sg} {x1 : Int32} {x2 : Int32} {Rr : (Int32 × Sg)} (hs : fX12_bear σ x1 x2 = some Rr) : MI l yX12_bear cX12_bear 4 (some .int) rmX12_bear [.ref (b + 132), .int x1, .int x2] b D cI cZ cO σ Rr := by
  unfold fX12_bear at hs
  refine metI (by decide +kernel) (Nat.le_of_ble_eq_true rfl) (fun p e s m below meth c ls C G hl => ?_)
  have C : Cx p s m _ meth c cX12_bear RX12 4 (some .int) D cI cZ cO := C
  have hx := C.1
  have hb := C.2.1
  have hl : lv_has ls 4 [(0, .ref (b + 132)), (1, .int x1), (2, .int x2)] := hl
  refine lv_aload_n hx hb dX12_bear_0 rfl (lv_at hl 0 rfl) ?_
  refine lv_iload_n hx hb dX12_bear_1 rfl (lv_at hl 1 rfl) ?_
  obtain ⟨r_1, σ_1, hc, hs⟩ := biE hs
  refine callVI (ar := 1) (As := [.int x1]) (rest := []) C G hl.1 (ctX12_isVillage _  hc) ⟨wd_1136, wd_1138, wd_54, wd_81, wd_1139⟩ (by decide +kernel) rfl ⟨rfl, rfl⟩ ⟨Nat.le_of_ble_eq_true rfl, Nat.le_of_ble_eq_true rfl⟩ (kd_lt kd_132 (by decide)) (ent_12 b cI cZ cO _ kd_132) rfl (Nat.le_of_ble_eq_true rfl) ⟨Nat.le_of_ble_eq_true rfl, Nat.le_of_ble_eq_true rfl⟩ dX12_bear_2 rfl (fun H locs G => ?_)
  refine lv_if_ne (tgt := 11) hx hb dX12_bear_5 (by decide) (fun c_2 => ?_) (fun c_2 => ?_)
  · replace hs := ifF c_2 hs
    refine lv_iload_n hx hb dX12_bear_11 rfl (lv_at hl 2 rfl) ?_
    refine lv_i2l hx hb dX12_bear_12 rfl ?_
    refine lv_lconst (v := 0) hx hb dX12_bear_13 (by decide) ?_
    refine m_ldc2 C wd_1152 dX12_bear_14 ?_
    obtain ⟨r_3, σ_3, hc, hs⟩ := biE hs
    refine callSI (ar := 3) (As := [.long x2.toInt64, .long 0, .long 99]) (rest := []) C G hl.1 (ctX12_in _  hc) ⟨wd_988, wd_989, wd_81, wd_990⟩ (by decide +kernel) rfl ⟨rfl, rfl⟩ ⟨Nat.le_of_ble_eq_true rfl, Nat.le_of_ble_eq_true rfl⟩ (Nat.le_of_ble_eq_true rfl) ⟨Nat.le_of_ble_eq_true rfl, Nat.le_of_ble_eq_true rfl⟩ dX12_bear_17 rfl (fun H locs G => ?_)
    refine lv_if_ne (tgt := 26) hx hb dX12_bear_20 (by decide) (fun c_4 => ?_) (fun c_4 => ?_)
    · replace hs := ifF c_4 hs
      refine lv_aload_n hx hb dX12_bear_26 rfl (lv_at hl 0 rfl) ?_
      obtain ⟨σ_5, hc, hs⟩ := bvE hs
      refine callVV (ar := 0) (As := []) (rest := []) C G hl.1 (ctX12_remember _  hc) ⟨wd_1153, wd_1155, wd_57, wd_81, wd_1156⟩ (by decide +kernel) rfl ⟨rfl, rfl⟩ ⟨Nat.le_of_ble_eq_true rfl, Nat.le_of_ble_eq_true rfl⟩ (kd_lt kd_132 (by decide)) (ent_12 b cI cZ cO _ kd_132) rfl (Nat.le_of_ble_eq_true rfl) ⟨Nat.le_of_ble_eq_true rfl, Nat.le_of_ble_eq_true rfl⟩ dX12_bear_27 rfl (fun H locs G => ?_)
      refine lv_aload_n hx hb dX12_bear_30 rfl (lv_at hl 0 rfl) ?_
      refine gf_X12_19 C G kd_132 (n' := 136) rfl dX12_bear_31 ?_
      refine lv_bipush (v := 26) hx hb dX12_bear_34 (by decide) ?_
      refine lv_iload_n hx hb dX12_bear_36 rfl (lv_at hl 1 rfl) ?_
      refine lv_iadd hx hb dX12_bear_37 ?_
      obtain ⟨g_6, hs⟩ := gdE hs
      refine m_iald C G kd_136 ln_136 g_6 dX12_bear_38 ?_
      refine topI hs (fun x3_7 hs => ?_)
      refine lv_istore_n (lv' := [(3, .int x3_7), (0, .ref (b + 132)), (1, .int x1), (2, .int x2)]) hx hb dX12_bear_39 rfl hl (by decide) rfl (fun ls hl => ?_)
      refine lv_aload_n hx hb dX12_bear_40 rfl (lv_at hl 1 rfl) ?_
      refine gf_X12_19 C G kd_132 (n' := 136) rfl dX12_bear_41 ?_
      refine lv_bipush (v := 26) hx hb dX12_bear_44 (by decide) ?_
      refine lv_iload_n hx hb dX12_bear_46 rfl (lv_at hl 2 rfl) ?_
      refine lv_iadd hx hb dX12_bear_47 ?_
      refine lv_iload_n hx hb dX12_bear_48 rfl (lv_at hl 3 rfl) ?_
      obtain ⟨g_8, hs⟩ := gdE hs
      refine m_iast C G kd_136 ln_136 g_8 hs dX12_bear_49 (fun σ_8 H locs hs G => ?_)
      refine lv_iload_n hx hb dX12_bear_50 rfl (lv_at hl 0 rfl) ?_
      exact retI C G hs dX12_bear_51
    · replace hs := ifT c_4 hs
      refine m_ldc C wd_991 dX12_bear_23 ?_
      exact retI C G hs dX12_bear_25
  · replace hs := ifT c_2 hs
    refine m_ldc C wd_1111 dX12_bear_8 ?_
    exact retI C G hs dX12_bear_10
-- X12_draw
def rmX12_draw : Room := { frames := 0, cells := 0, slots := 0, locals := 0 }
def fX12_draw (σ : Sg) (x1 : Int32) : Option (Int32 × Sg) :=
  lt (st σ 132 8 (((((σ 132 8).toInt64 * 1103515245) + 12345) - (((σ 132 8).toInt64 * 1103515245) + 12345) / 2147483648 * 2147483648).toInt32)) (fun σ_1 => (if ¬ x1 = 0 then some ((((σ_1 132 8) / 65536) - ((σ_1 132 8) / 65536) / x1 * x1), σ_1) else none))
set_option maxRecDepth 100000 in
set_option maxHeartbeats 4000000 in
theorem ctX12_draw (l : Launch) {D : va_G} {cI cZ cO : ClassId} {b : Nat} {σ : Sg} {x1 : Int32} {Rr : (Int32 × Sg)} (hs : fX12_draw σ x1 = some Rr) : MI l yX12_draw cX12_draw 2 (some .int) rmX12_draw [.ref (b + 132), .int x1] b D cI cZ cO σ Rr := by
  unfold fX12_draw at hs
  refine metI (by decide +kernel) (Nat.le_of_ble_eq_true rfl) (fun p e s m below meth c ls C G hl => ?_)
  have C : Cx p s m _ meth c cX12_draw RX12 2 (some .int) D cI cZ cO := C
  have hx := C.1
  have hb := C.2.1
  have hl : lv_has ls 2 [(0, .ref (b + 132)), (1, .int x1)] := hl
  refine lv_aload_n hx hb dX12_draw_0 rfl (lv_at hl 0 rfl) ?_
  refine lv_aload_n hx hb dX12_draw_1 rfl (lv_at hl 0 rfl) ?_
  refine gf_X12_259 C G kd_132 dX12_draw_2 ?_
  refine lv_i2l hx hb dX12_draw_5 rfl ?_
  refine m_ldc2 C wd_1200 dX12_draw_6 ?_
  refine lv_lmul hx hb dX12_draw_9 ?_
  refine m_ldc2 C wd_1201 dX12_draw_10 ?_
  refine lv_ladd hx hb dX12_draw_13 ?_
  refine m_ldc2 C wd_1202 dX12_draw_14 ?_
  refine lv_lrem hx hb dX12_draw_17 (by decide) ?_
  refine lv_l2i hx hb dX12_draw_18 rfl ?_
  refine pf_X12_259 C G kd_132 hs dX12_draw_19 (fun σ_1 H locs hs G => ?_)
  refine lv_aload_n hx hb dX12_draw_22 rfl (lv_at hl 0 rfl) ?_
  refine gf_X12_259 C G kd_132 dX12_draw_23 ?_
  refine m_ldcw C wd_1203 dX12_draw_26 ?_
  refine lv_idiv hx hb dX12_draw_29 (by decide) ?_
  refine lv_iload_n hx hb dX12_draw_30 rfl (lv_at hl 1 rfl) ?_
  obtain ⟨g_2, hs⟩ := gdE hs
  refine lv_irem hx hb dX12_draw_31 g_2 ?_
  exact retI C G hs dX12_draw_32
-- X12_chance
def rmX12_chance : Room := { frames := 3, cells := 0, slots := 0, locals := 73 }
def fX12_chance (σ : Sg) : Option Sg :=
  bi (fX12_draw σ 4) (fun r_1 σ_1 => bi (fX12_draw σ_1 (σ_1 132 3)) (fun r_2 σ_2 => bi (fX12_draw σ_2 100) (fun r_3 σ_3 => (if 2 ≤ r_1 then (if r_1 = 3 then (if inb (5 + r_2) 60 then lt (st σ_3 136 (5 + r_2).toNatClampNeg ((r_3 - r_3 / 9 * 9) + 1)) (fun σ_9 => some σ_9) else none) else bi (fX12_mayGo σ_3 r_2 r_2) (fun r_6 σ_6 => (if r_6 = 0 then some σ_6 else bv (fX12_answers σ_6 r_2 r_2) (fun σ_8 => some σ_8)))) else bi (fX12_tells σ_3 r_2 r_3) (fun r_10 σ_10 => some σ_10)))))
set_option maxRecDepth 100000 in
set_option maxHeartbeats 4000000 in
theorem ctX12_chance (l : Launch) {D : va_G} {cI cZ cO : ClassId} {b : Nat} {σ : Sg} {Rr : Sg} (hs : fX12_chance σ = some Rr) : MV l yX12_chance cX12_chance 5 rmX12_chance [.ref (b + 132)] b D cI cZ cO σ Rr := by
  unfold fX12_chance at hs
  refine metV (by decide +kernel) (Nat.le_of_ble_eq_true rfl) (fun p e s m below meth c ls C G hl => ?_)
  have C : Cx p s m _ meth c cX12_chance RX12 5 none D cI cZ cO := C
  have hx := C.1
  have hb := C.2.1
  have hl : lv_has ls 5 [(0, .ref (b + 132))] := hl
  refine lv_aload_n hx hb dX12_chance_0 rfl (lv_at hl 0 rfl) ?_
  refine lv_iconst (v := 4) hx hb dX12_chance_1 (by decide) ?_
  obtain ⟨r_1, σ_1, hc, hs⟩ := biE hs
  refine callVI (ar := 1) (As := [.int 4]) (rest := []) C G hl.1 (ctX12_draw _  hc) ⟨wd_1196, wd_1198, wd_62, wd_81, wd_1199⟩ (by decide +kernel) rfl ⟨rfl, rfl⟩ ⟨Nat.le_of_ble_eq_true rfl, Nat.le_of_ble_eq_true rfl⟩ (kd_lt kd_132 (by decide)) (ent_12 b cI cZ cO _ kd_132) rfl (Nat.le_of_ble_eq_true rfl) ⟨Nat.le_of_ble_eq_true rfl, Nat.le_of_ble_eq_true rfl⟩ dX12_chance_2 rfl (fun H locs G => ?_)
  refine lv_istore_n (lv' := [(1, .int r_1), (0, .ref (b + 132))]) hx hb dX12_chance_5 rfl hl (by decide) rfl (fun ls hl => ?_)
  refine lv_aload_n hx hb dX12_chance_6 rfl (lv_at hl 1 rfl) ?_
  refine lv_aload_n hx hb dX12_chance_7 rfl (lv_at hl 1 rfl) ?_
  refine gf_X12_72 C G kd_132 dX12_chance_8 ?_
  obtain ⟨r_2, σ_2, hc, hs⟩ := biE hs
  refine callVI (ar := 1) (As := [.int (σ_1 132 3)]) (rest := []) C G hl.1 (ctX12_draw _  hc) ⟨wd_1196, wd_1198, wd_62, wd_81, wd_1199⟩ (by decide +kernel) rfl ⟨rfl, rfl⟩ ⟨Nat.le_of_ble_eq_true rfl, Nat.le_of_ble_eq_true rfl⟩ (kd_lt kd_132 (by decide)) (ent_12 b cI cZ cO _ kd_132) rfl (Nat.le_of_ble_eq_true rfl) ⟨Nat.le_of_ble_eq_true rfl, Nat.le_of_ble_eq_true rfl⟩ dX12_chance_11 rfl (fun H locs G => ?_)
  refine lv_istore_n (lv' := [(2, .int r_2), (1, .int r_1), (0, .ref (b + 132))]) hx hb dX12_chance_14 rfl hl (by decide) rfl (fun ls hl => ?_)
  refine lv_aload_n hx hb dX12_chance_15 rfl (lv_at hl 2 rfl) ?_
  refine lv_bipush (v := 100) hx hb dX12_chance_16 (by decide) ?_
  obtain ⟨r_3, σ_3, hc, hs⟩ := biE hs
  refine callVI (ar := 1) (As := [.int 100]) (rest := []) C G hl.1 (ctX12_draw _  hc) ⟨wd_1196, wd_1198, wd_62, wd_81, wd_1199⟩ (by decide +kernel) rfl ⟨rfl, rfl⟩ ⟨Nat.le_of_ble_eq_true rfl, Nat.le_of_ble_eq_true rfl⟩ (kd_lt kd_132 (by decide)) (ent_12 b cI cZ cO _ kd_132) rfl (Nat.le_of_ble_eq_true rfl) ⟨Nat.le_of_ble_eq_true rfl, Nat.le_of_ble_eq_true rfl⟩ dX12_chance_18 rfl (fun H locs G => ?_)
  refine lv_istore_n (lv' := [(3, .int r_3), (2, .int r_2), (1, .int r_1), (0, .ref (b + 132))]) hx hb dX12_chance_21 rfl hl (by decide) rfl (fun ls hl => ?_)
  refine lv_iload_n hx hb dX12_chance_22 rfl (lv_at hl 2 rfl) ?_
  refine lv_iconst (v := 2) hx hb dX12_chance_23 (by decide) ?_
  refine lv_icmp_ge (tgt := 38) hx hb dX12_chance_24 (by decide) (fun c_4 => ?_) (fun c_4 => ?_)
  · replace hs := ifT c_4 hs
    refine lv_iload_n hx hb dX12_chance_38 rfl (lv_at hl 2 rfl) ?_
    refine lv_iconst (v := 3) hx hb dX12_chance_39 (by decide) ?_
    refine lv_icmp_ne (tgt := 60) hx hb dX12_chance_40 (by decide) (fun c_5 => ?_) (fun c_5 => ?_)
    · replace hs := ifF c_5 hs
      refine lv_aload_n hx hb dX12_chance_60 rfl (lv_at hl 3 rfl) ?_
      refine lv_iload_n hx hb dX12_chance_61 rfl (lv_at hl 1 rfl) ?_
      refine lv_iload_n hx hb dX12_chance_62 rfl (lv_at hl 1 rfl) ?_
      obtain ⟨r_6, σ_6, hc, hs⟩ := biE hs
      refine callVI (ar := 2) (As := [.int r_2, .int r_2]) (rest := []) C G hl.1 (ctX12_mayGo _  hc) ⟨wd_1165, wd_1167, wd_59, wd_81, wd_1168⟩ (by decide +kernel) rfl ⟨rfl, rfl⟩ ⟨Nat.le_of_ble_eq_true rfl, Nat.le_of_ble_eq_true rfl⟩ (kd_lt kd_132 (by decide)) (ent_12 b cI cZ cO _ kd_132) rfl (Nat.le_of_ble_eq_true rfl) ⟨Nat.le_of_ble_eq_true rfl, Nat.le_of_ble_eq_true rfl⟩ dX12_chance_63 rfl (fun H locs G => ?_)
      refine lv_if_eq (tgt := 75) hx hb dX12_chance_66 (by decide) (fun c_7 => ?_) (fun c_7 => ?_)
      · replace hs := ifT c_7 hs
        exact retV C G hs dX12_chance_75
      · replace hs := ifF c_7 hs
        refine lv_aload_n hx hb dX12_chance_69 rfl (lv_at hl 3 rfl) ?_
        refine lv_iload_n hx hb dX12_chance_70 rfl (lv_at hl 1 rfl) ?_
        refine lv_iload_n hx hb dX12_chance_71 rfl (lv_at hl 1 rfl) ?_
        obtain ⟨σ_8, hc, hs⟩ := bvE hs
        refine callVV (ar := 2) (As := [.int r_2, .int r_2]) (rest := []) C G hl.1 (ctX12_answers _  hc) ⟨wd_1170, wd_1172, wd_60, wd_81, wd_1173⟩ (by decide +kernel) rfl ⟨rfl, rfl⟩ ⟨Nat.le_of_ble_eq_true rfl, Nat.le_of_ble_eq_true rfl⟩ (kd_lt kd_132 (by decide)) (ent_12 b cI cZ cO _ kd_132) rfl (Nat.le_of_ble_eq_true rfl) ⟨Nat.le_of_ble_eq_true rfl, Nat.le_of_ble_eq_true rfl⟩ dX12_chance_72 rfl (fun H locs G => ?_)
        exact retV C G hs dX12_chance_75
    · replace hs := ifT c_5 hs
      refine lv_aload_n hx hb dX12_chance_43 rfl (lv_at hl 3 rfl) ?_
      refine gf_X12_19 C G kd_132 (n' := 136) rfl dX12_chance_44 ?_
      refine lv_iconst (v := 5) hx hb dX12_chance_47 (by decide) ?_
      refine lv_iload_n hx hb dX12_chance_48 rfl (lv_at hl 1 rfl) ?_
      refine lv_iadd hx hb dX12_chance_49 ?_
      refine lv_iload_n hx hb dX12_chance_50 rfl (lv_at hl 0 rfl) ?_
      refine lv_bipush (v := 9) hx hb dX12_chance_51 (by decide) ?_
      refine lv_irem hx hb dX12_chance_53 (by decide) ?_
      refine lv_iconst (v := 1) hx hb dX12_chance_54 (by decide) ?_
      refine lv_iadd hx hb dX12_chance_55 ?_
      obtain ⟨g_9, hs⟩ := gdE hs
      refine m_iast C G kd_136 ln_136 g_9 hs dX12_chance_56 (fun σ_9 H locs hs G => ?_)
      refine lv_goto (tgt := 75) hx hb dX12_chance_57 (by decide) ?_
      exact retV C G hs dX12_chance_75
  · replace hs := ifF c_4 hs
    refine lv_aload_n hx hb dX12_chance_27 rfl (lv_at hl 3 rfl) ?_
    refine lv_iload_n hx hb dX12_chance_28 rfl (lv_at hl 1 rfl) ?_
    refine lv_iload_n hx hb dX12_chance_29 rfl (lv_at hl 0 rfl) ?_
    obtain ⟨r_10, σ_10, hc, hs⟩ := biE hs
    refine callVI (ar := 2) (As := [.int r_2, .int r_3]) (rest := []) C G hl.1 (ctX12_tells _  hc) ⟨wd_1157, wd_1159, wd_58, wd_81, wd_1160⟩ (by decide +kernel) rfl ⟨rfl, rfl⟩ ⟨Nat.le_of_ble_eq_true rfl, Nat.le_of_ble_eq_true rfl⟩ (kd_lt kd_132 (by decide)) (ent_12 b cI cZ cO _ kd_132) rfl (Nat.le_of_ble_eq_true rfl) ⟨Nat.le_of_ble_eq_true rfl, Nat.le_of_ble_eq_true rfl⟩ dX12_chance_30 rfl (fun H locs G => ?_)
    refine lv_istore (lv' := [(4, .int r_10), (3, .int r_3), (2, .int r_2), (1, .int r_1), (0, .ref (b + 132))]) hx hb dX12_chance_33 hl (by decide) rfl (fun ls hl => ?_)
    refine lv_goto (tgt := 75) hx hb dX12_chance_35 (by decide) ?_
    exact retV C G hs dX12_chance_75
