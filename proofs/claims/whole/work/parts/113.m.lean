-- X12_takePerson
def rmX12_takePerson : Room := { frames := 2, cells := 0, slots := 0, locals := 48 }
def fX12_takePerson_160 (σ : Sg) (x2 : Int32) (y0 : Int32) (y1 : Int32) : Option (Int32 × Sg) :=
  lt (st σ 132 17 (y1 + y0)) (fun σ_17 => some (x2, σ_17))
set_option maxRecDepth 100000 in
set_option maxHeartbeats 4000000 in
theorem wX12_takePerson_160 {p : Program} {l : Launch} {e : Env} {s : State} {m : MethodId} {args : Array Value} {below : List Frame} {meth : Method} {c : Code} {D : va_G} {cI cZ cO : ClassId} {b : Nat} (C : Cx p s m args meth c cX12_takePerson RX12 5 (some .int) D cI cZ cO) {Rr : (Int32 × Sg)} {σ : Sg} {x2 : Int32} {y0 : Int32} {y1 : Int32} {H : Heap} {locs : List Loc} {ls : Array Slot} (hs : fX12_takePerson_160 σ x2 y0 y1 = some Rr) (G : Gd b D cI cZ cO σ s.heap H locs) (hl : lv_has ls 5 [(2, .int x2)]) : W p l e rmX12_takePerson s m args below meth c H locs 0 0 (MQ below (QI b D cI cZ cO Rr) args s 0 0 (fun q => b ≤ q)) (F0 m 160 ls [.int y0, .int y1, .ref (b + 132)]) := by
  have hx := C.1
  have hb := C.2.1
  unfold fX12_takePerson_160 at hs
  refine lv_iadd hx hb dX12_takePerson_160 ?_
  refine pf_X12_119 C G kd_132 hs dX12_takePerson_161 (fun σ_17 H locs hs G => ?_)
  refine lv_iload_n hx hb dX12_takePerson_164 rfl (lv_at hl 0 rfl) ?_
  exact retI C G hs dX12_takePerson_165
def fX12_takePerson_159 (σ : Sg) (x2 : Int32) (y0 : Int32) : Option (Int32 × Sg) :=
  fX12_takePerson_160 σ x2 0 y0
set_option maxRecDepth 100000 in
set_option maxHeartbeats 4000000 in
theorem wX12_takePerson_159 {p : Program} {l : Launch} {e : Env} {s : State} {m : MethodId} {args : Array Value} {below : List Frame} {meth : Method} {c : Code} {D : va_G} {cI cZ cO : ClassId} {b : Nat} (C : Cx p s m args meth c cX12_takePerson RX12 5 (some .int) D cI cZ cO) {Rr : (Int32 × Sg)} {σ : Sg} {x2 : Int32} {y0 : Int32} {H : Heap} {locs : List Loc} {ls : Array Slot} (hs : fX12_takePerson_159 σ x2 y0 = some Rr) (G : Gd b D cI cZ cO σ s.heap H locs) (hl : lv_has ls 5 [(2, .int x2)]) : W p l e rmX12_takePerson s m args below meth c H locs 0 0 (MQ below (QI b D cI cZ cO Rr) args s 0 0 (fun q => b ≤ q)) (F0 m 159 ls [.int y0, .ref (b + 132)]) := by
  have hx := C.1
  have hb := C.2.1
  unfold fX12_takePerson_159 at hs
  refine lv_iconst (v := 0) hx hb dX12_takePerson_159 (by decide) ?_
  exact wX12_takePerson_160 C   hs G (lv_sub hl [0] rfl)
def fX12_takePerson_142 (σ : Sg) (x2 : Int32) (x3 : Int32) : Option (Int32 × Sg) :=
  (if x2 = 0 then (if x3 < 0 then fX12_takePerson_159 σ x2 (σ 132 17) else fX12_takePerson_160 σ x2 1 (σ 132 17)) else fX12_takePerson_159 σ x2 (σ 132 17))
set_option maxRecDepth 100000 in
set_option maxHeartbeats 4000000 in
theorem wX12_takePerson_142 {p : Program} {l : Launch} {e : Env} {s : State} {m : MethodId} {args : Array Value} {below : List Frame} {meth : Method} {c : Code} {D : va_G} {cI cZ cO : ClassId} {b : Nat} (C : Cx p s m args meth c cX12_takePerson RX12 5 (some .int) D cI cZ cO) {Rr : (Int32 × Sg)} {σ : Sg} {x2 : Int32} {x3 : Int32} {H : Heap} {locs : List Loc} {ls : Array Slot} (hs : fX12_takePerson_142 σ x2 x3 = some Rr) (G : Gd b D cI cZ cO σ s.heap H locs) (hl : lv_has ls 5 [(0, .ref (b + 132)), (2, .int x2), (3, .int x3)]) : W p l e rmX12_takePerson s m args below meth c H locs 0 0 (MQ below (QI b D cI cZ cO Rr) args s 0 0 (fun q => b ≤ q)) (F0 m 142 ls []) := by
  have hx := C.1
  have hb := C.2.1
  unfold fX12_takePerson_142 at hs
  refine lv_aload_n hx hb dX12_takePerson_142 rfl (lv_at hl 0 rfl) ?_
  refine lv_dup hx hb dX12_takePerson_143 rfl ?_
  refine gf_X12_119 C G kd_132 dX12_takePerson_144 ?_
  refine lv_iload_n hx hb dX12_takePerson_147 rfl (lv_at hl 1 rfl) ?_
  refine lv_if_ne (tgt := 159) hx hb dX12_takePerson_148 (by decide) (fun c_16 => ?_) (fun c_16 => ?_)
  · replace hs := ifF c_16 hs
    exact wX12_takePerson_159 C   hs G (lv_sub hl [1] rfl)
  · replace hs := ifT c_16 hs
    refine lv_iload_n hx hb dX12_takePerson_151 rfl (lv_at hl 2 rfl) ?_
    refine lv_if_lt (tgt := 159) hx hb dX12_takePerson_152 (by decide) (fun c_18 => ?_) (fun c_18 => ?_)
    · replace hs := ifT c_18 hs
      exact wX12_takePerson_159 C   hs G (lv_sub hl [1] rfl)
    · replace hs := ifF c_18 hs
      refine lv_iconst (v := 1) hx hb dX12_takePerson_155 (by decide) ?_
      refine lv_goto (tgt := 160) hx hb dX12_takePerson_156 (by decide) ?_
      exact wX12_takePerson_160 C   hs G (lv_sub hl [1] rfl)
def fX12_takePerson_67 (σ : Sg) (x1 : Int32) (y0 : Int32) : Option (Int32 × Sg) :=
  (if inb x1 7 then lt (st σ 141 x1.toNatClampNeg (σ 132 13)) (fun σ_9 => (if y0 ≤ 0 then bi (fX12_here σ_9) (fun r_11 σ_11 => lt (σ_11 132 12) (fun x4_12 => bi (fX12_takeNumber σ_11 0 9) (fun r_13 σ_13 => (if inb x1 7 then lt (st σ_13 142 x1.toNatClampNeg (σ_13 132 13)) (fun σ_14 => (if r_13 = 0 then bi (fX12_in σ_14 ((σ_14 132 13).toInt64) 7 8) (fun r_19 σ_19 => (if r_19 = 0 then fX12_takePerson_142 σ_19 r_13 r_11 else bi (fX12_fails σ_19 2 x4_12) (fun r_21 σ_21 => some (r_21, σ_21)))) else fX12_takePerson_142 σ_14 r_13 r_11)) else none)))) else some (y0, σ_9))) else none)
set_option maxRecDepth 100000 in
set_option maxHeartbeats 4000000 in
theorem wX12_takePerson_67 {p : Program} {l : Launch} {e : Env} {s : State} {m : MethodId} {args : Array Value} {below : List Frame} {meth : Method} {c : Code} {D : va_G} {cI cZ cO : ClassId} {b : Nat} (C : Cx p s m args meth c cX12_takePerson RX12 5 (some .int) D cI cZ cO) {Rr : (Int32 × Sg)} {σ : Sg} {x1 : Int32} {y0 : Int32} {H : Heap} {locs : List Loc} {ls : Array Slot} (hs : fX12_takePerson_67 σ x1 y0 = some Rr) (G : Gd b D cI cZ cO σ s.heap H locs) (hl : lv_has ls 5 [(0, .ref (b + 132)), (1, .int x1)]) : W p l e rmX12_takePerson s m args below meth c H locs 0 0 (MQ below (QI b D cI cZ cO Rr) args s 0 0 (fun q => b ≤ q)) (F0 m 67 ls [.int y0]) := by
  have hx := C.1
  have hb := C.2.1
  unfold fX12_takePerson_67 at hs
  refine lv_istore_n (lv' := [(2, .int y0), (0, .ref (b + 132)), (1, .int x1)]) hx hb dX12_takePerson_67 rfl hl (by decide) rfl (fun ls hl => ?_)
  refine lv_aload_n hx hb dX12_takePerson_68 rfl (lv_at hl 1 rfl) ?_
  refine gf_X12_38 C G kd_132 (n' := 141) rfl dX12_takePerson_69 ?_
  refine lv_iload_n hx hb dX12_takePerson_72 rfl (lv_at hl 2 rfl) ?_
  refine lv_aload_n hx hb dX12_takePerson_73 rfl (lv_at hl 1 rfl) ?_
  refine gf_X12_104 C G kd_132 dX12_takePerson_74 ?_
  obtain ⟨g_9, hs⟩ := gdE hs
  refine m_iast C G kd_141 ln_141 g_9 hs dX12_takePerson_77 (fun σ_9 H locs hs G => ?_)
  refine lv_iload_n hx hb dX12_takePerson_78 rfl (lv_at hl 0 rfl) ?_
  refine lv_if_le (tgt := 84) hx hb dX12_takePerson_79 (by decide) (fun c_10 => ?_) (fun c_10 => ?_)
  · replace hs := ifT c_10 hs
    refine lv_aload_n hx hb dX12_takePerson_84 rfl (lv_at hl 1 rfl) ?_
    obtain ⟨r_11, σ_11, hc, hs⟩ := biE hs
    refine callVI (ar := 0) (As := []) (rest := []) C G hl.1 (ctX12_here _  hc) ⟨wd_997, wd_999, wd_26, wd_81, wd_1000⟩ (by decide +kernel) rfl ⟨rfl, rfl⟩ ⟨Nat.le_of_ble_eq_true rfl, Nat.le_of_ble_eq_true rfl⟩ (kd_lt kd_132 (by decide)) (ent_12 b cI cZ cO _ kd_132) rfl (Nat.le_of_ble_eq_true rfl) ⟨Nat.le_of_ble_eq_true rfl, Nat.le_of_ble_eq_true rfl⟩ dX12_takePerson_85 rfl (fun H locs G => ?_)
    refine lv_istore_n (lv' := [(3, .int r_11), (2, .int y0), (0, .ref (b + 132)), (1, .int x1)]) hx hb dX12_takePerson_88 rfl hl (by decide) rfl (fun ls hl => ?_)
    refine lv_aload_n hx hb dX12_takePerson_89 rfl (lv_at hl 2 rfl) ?_
    refine gf_X12_89 C G kd_132 dX12_takePerson_90 ?_
    refine topI hs (fun x4_12 hs => ?_)
    refine lv_istore (lv' := [(4, .int x4_12), (3, .int r_11), (2, .int y0), (0, .ref (b + 132)), (1, .int x1)]) hx hb dX12_takePerson_93 hl (by decide) rfl (fun ls hl => ?_)
    refine lv_aload_n hx hb dX12_takePerson_95 rfl (lv_at hl 3 rfl) ?_
    refine lv_iconst (v := 0) hx hb dX12_takePerson_96 (by decide) ?_
    refine lv_bipush (v := 9) hx hb dX12_takePerson_97 (by decide) ?_
    obtain ⟨r_13, σ_13, hc, hs⟩ := biE hs
    refine callVI (ar := 2) (As := [.int 0, .int 9]) (rest := []) C G hl.1 (ctX12_takeNumber _  hc) ⟨wd_1013, wd_1015, wd_30, wd_81, wd_1016⟩ (by decide +kernel) rfl ⟨rfl, rfl⟩ ⟨Nat.le_of_ble_eq_true rfl, Nat.le_of_ble_eq_true rfl⟩ (kd_lt kd_132 (by decide)) (ent_12 b cI cZ cO _ kd_132) rfl (Nat.le_of_ble_eq_true rfl) ⟨Nat.le_of_ble_eq_true rfl, Nat.le_of_ble_eq_true rfl⟩ dX12_takePerson_99 rfl (fun H locs G => ?_)
    refine lv_istore_n (lv' := [(2, .int r_13), (4, .int x4_12), (3, .int r_11), (0, .ref (b + 132)), (1, .int x1)]) hx hb dX12_takePerson_102 rfl hl (by decide) rfl (fun ls hl => ?_)
    refine lv_aload_n hx hb dX12_takePerson_103 rfl (lv_at hl 3 rfl) ?_
    refine gf_X12_41 C G kd_132 (n' := 142) rfl dX12_takePerson_104 ?_
    refine lv_iload_n hx hb dX12_takePerson_107 rfl (lv_at hl 4 rfl) ?_
    refine lv_aload_n hx hb dX12_takePerson_108 rfl (lv_at hl 3 rfl) ?_
    refine gf_X12_104 C G kd_132 dX12_takePerson_109 ?_
    obtain ⟨g_14, hs⟩ := gdE hs
    refine m_iast C G kd_142 ln_142 g_14 hs dX12_takePerson_112 (fun σ_14 H locs hs G => ?_)
    refine lv_iload_n hx hb dX12_takePerson_113 rfl (lv_at hl 0 rfl) ?_
    refine lv_if_ne (tgt := 142) hx hb dX12_takePerson_114 (by decide) (fun c_15 => ?_) (fun c_15 => ?_)
    · replace hs := ifF c_15 hs
      exact wX12_takePerson_142 C   hs G (lv_sub hl [3, 0, 2] rfl)
    · replace hs := ifT c_15 hs
      refine lv_aload_n hx hb dX12_takePerson_117 rfl (lv_at hl 3 rfl) ?_
      refine gf_X12_104 C G kd_132 dX12_takePerson_118 ?_
      refine lv_i2l hx hb dX12_takePerson_121 rfl ?_
      refine m_ldc2 C wd_1027 dX12_takePerson_122 ?_
      refine m_ldc2 C wd_1028 dX12_takePerson_125 ?_
      obtain ⟨r_19, σ_19, hc, hs⟩ := biE hs
      refine callSI (ar := 3) (As := [.long ((σ_14 132 13).toInt64), .long 7, .long 8]) (rest := []) C G hl.1 (ctX12_in _  hc) ⟨wd_988, wd_989, wd_81, wd_990⟩ (by decide +kernel) rfl ⟨rfl, rfl⟩ ⟨Nat.le_of_ble_eq_true rfl, Nat.le_of_ble_eq_true rfl⟩ (Nat.le_of_ble_eq_true rfl) ⟨Nat.le_of_ble_eq_true rfl, Nat.le_of_ble_eq_true rfl⟩ dX12_takePerson_128 rfl (fun H locs G => ?_)
      refine lv_if_eq (tgt := 142) hx hb dX12_takePerson_131 (by decide) (fun c_20 => ?_) (fun c_20 => ?_)
      · replace hs := ifT c_20 hs
        exact wX12_takePerson_142 C   hs G (lv_sub hl [3, 0, 2] rfl)
      · replace hs := ifF c_20 hs
        refine lv_aload_n hx hb dX12_takePerson_134 rfl (lv_at hl 3 rfl) ?_
        refine lv_iconst (v := 2) hx hb dX12_takePerson_135 (by decide) ?_
        refine lv_iload hx hb dX12_takePerson_136 (lv_at hl 1 rfl) ?_
        obtain ⟨r_21, σ_21, hc, hs⟩ := biE hs
        refine callVI (ar := 2) (As := [.int 2, .int x4_12]) (rest := []) C G hl.1 (ctX12_fails _  hc) ⟨wd_1005, wd_1007, wd_28, wd_81, wd_1008⟩ (by decide +kernel) rfl ⟨rfl, rfl⟩ ⟨Nat.le_of_ble_eq_true rfl, Nat.le_of_ble_eq_true rfl⟩ (kd_lt kd_132 (by decide)) (ent_12 b cI cZ cO _ kd_132) rfl (Nat.le_of_ble_eq_true rfl) ⟨Nat.le_of_ble_eq_true rfl, Nat.le_of_ble_eq_true rfl⟩ dX12_takePerson_138 rfl (fun H locs G => ?_)
        exact retI C G hs dX12_takePerson_141
  · replace hs := ifF c_10 hs
    refine lv_iload_n hx hb dX12_takePerson_82 rfl (lv_at hl 0 rfl) ?_
    exact retI C G hs dX12_takePerson_83
def fX12_takePerson_41 (σ : Sg) (x1 : Int32) (y0 : Int32) : Option (Int32 × Sg) :=
  (if inb x1 7 then lt (st σ 140 x1.toNatClampNeg (σ 132 13)) (fun σ_6 => (if y0 ≤ 0 then bi (fX12_takeNumber σ_6 1 9) (fun r_8 σ_8 => fX12_takePerson_67 σ_8 x1 r_8) else fX12_takePerson_67 σ_6 x1 y0)) else none)
set_option maxRecDepth 100000 in
set_option maxHeartbeats 4000000 in
theorem wX12_takePerson_41 {p : Program} {l : Launch} {e : Env} {s : State} {m : MethodId} {args : Array Value} {below : List Frame} {meth : Method} {c : Code} {D : va_G} {cI cZ cO : ClassId} {b : Nat} (C : Cx p s m args meth c cX12_takePerson RX12 5 (some .int) D cI cZ cO) {Rr : (Int32 × Sg)} {σ : Sg} {x1 : Int32} {y0 : Int32} {H : Heap} {locs : List Loc} {ls : Array Slot} (hs : fX12_takePerson_41 σ x1 y0 = some Rr) (G : Gd b D cI cZ cO σ s.heap H locs) (hl : lv_has ls 5 [(0, .ref (b + 132)), (1, .int x1)]) : W p l e rmX12_takePerson s m args below meth c H locs 0 0 (MQ below (QI b D cI cZ cO Rr) args s 0 0 (fun q => b ≤ q)) (F0 m 41 ls [.int y0]) := by
  have hx := C.1
  have hb := C.2.1
  unfold fX12_takePerson_41 at hs
  refine lv_istore_n (lv' := [(2, .int y0), (0, .ref (b + 132)), (1, .int x1)]) hx hb dX12_takePerson_41 rfl hl (by decide) rfl (fun ls hl => ?_)
  refine lv_aload_n hx hb dX12_takePerson_42 rfl (lv_at hl 1 rfl) ?_
  refine gf_X12_35 C G kd_132 (n' := 140) rfl dX12_takePerson_43 ?_
  refine lv_iload_n hx hb dX12_takePerson_46 rfl (lv_at hl 2 rfl) ?_
  refine lv_aload_n hx hb dX12_takePerson_47 rfl (lv_at hl 1 rfl) ?_
  refine gf_X12_104 C G kd_132 dX12_takePerson_48 ?_
  obtain ⟨g_6, hs⟩ := gdE hs
  refine m_iast C G kd_140 ln_140 g_6 hs dX12_takePerson_51 (fun σ_6 H locs hs G => ?_)
  refine lv_iload_n hx hb dX12_takePerson_52 rfl (lv_at hl 0 rfl) ?_
  refine lv_if_le (tgt := 60) hx hb dX12_takePerson_53 (by decide) (fun c_7 => ?_) (fun c_7 => ?_)
  · replace hs := ifT c_7 hs
    refine lv_aload_n hx hb dX12_takePerson_60 rfl (lv_at hl 1 rfl) ?_
    refine lv_iconst (v := 1) hx hb dX12_takePerson_61 (by decide) ?_
    refine lv_bipush (v := 9) hx hb dX12_takePerson_62 (by decide) ?_
    obtain ⟨r_8, σ_8, hc, hs⟩ := biE hs
    refine callVI (ar := 2) (As := [.int 1, .int 9]) (rest := []) C G hl.1 (ctX12_takeNumber _  hc) ⟨wd_1013, wd_1015, wd_30, wd_81, wd_1016⟩ (by decide +kernel) rfl ⟨rfl, rfl⟩ ⟨Nat.le_of_ble_eq_true rfl, Nat.le_of_ble_eq_true rfl⟩ (kd_lt kd_132 (by decide)) (ent_12 b cI cZ cO _ kd_132) rfl (Nat.le_of_ble_eq_true rfl) ⟨Nat.le_of_ble_eq_true rfl, Nat.le_of_ble_eq_true rfl⟩ dX12_takePerson_64 rfl (fun H locs G => ?_)
    exact wX12_takePerson_67 C   hs G (lv_sub hl [1, 2] rfl)
  · replace hs := ifF c_7 hs
    refine lv_iload_n hx hb dX12_takePerson_56 rfl (lv_at hl 0 rfl) ?_
    refine lv_goto (tgt := 67) hx hb dX12_takePerson_57 (by decide) ?_
    exact wX12_takePerson_67 C   hs G (lv_sub hl [1, 2] rfl)
def fX12_takePerson (σ : Sg) : Option (Int32 × Sg) :=
  lt (σ 132 17) (fun x1_1 => bi (fX12_takeNumber σ 0 3) (fun r_2 σ_2 => (if inb x1_1 7 then lt (st σ_2 139 x1_1.toNatClampNeg (σ_2 132 13)) (fun σ_3 => (if r_2 ≤ 0 then bi (fX12_takeNumber σ_3 0 ((σ_3 132 16) - 1)) (fun r_5 σ_5 => fX12_takePerson_41 σ_5 x1_1 r_5) else fX12_takePerson_41 σ_3 x1_1 r_2)) else none)))
set_option maxRecDepth 100000 in
set_option maxHeartbeats 4000000 in
theorem ctX12_takePerson (l : Launch) {D : va_G} {cI cZ cO : ClassId} {b : Nat} {σ : Sg} {Rr : (Int32 × Sg)} (hs : fX12_takePerson σ = some Rr) : MI l yX12_takePerson cX12_takePerson 5 (some .int) rmX12_takePerson [.ref (b + 132)] b D cI cZ cO σ Rr := by
  unfold fX12_takePerson at hs
  refine metI (by decide +kernel) (Nat.le_of_ble_eq_true rfl) (fun p e s m below meth c ls C G hl => ?_)
  have C : Cx p s m _ meth c cX12_takePerson RX12 5 (some .int) D cI cZ cO := C
  have hx := C.1
  have hb := C.2.1
  have hl : lv_has ls 5 [(0, .ref (b + 132))] := hl
  refine lv_aload_n hx hb dX12_takePerson_0 rfl (lv_at hl 0 rfl) ?_
  refine gf_X12_119 C G kd_132 dX12_takePerson_1 ?_
  refine topI hs (fun x1_1 hs => ?_)
  refine lv_istore_n (lv' := [(1, .int x1_1), (0, .ref (b + 132))]) hx hb dX12_takePerson_4 rfl hl (by decide) rfl (fun ls hl => ?_)
  refine lv_aload_n hx hb dX12_takePerson_5 rfl (lv_at hl 1 rfl) ?_
  refine lv_iconst (v := 0) hx hb dX12_takePerson_6 (by decide) ?_
  refine lv_iconst (v := 3) hx hb dX12_takePerson_7 (by decide) ?_
  obtain ⟨r_2, σ_2, hc, hs⟩ := biE hs
  refine callVI (ar := 2) (As := [.int 0, .int 3]) (rest := []) C G hl.1 (ctX12_takeNumber _  hc) ⟨wd_1013, wd_1015, wd_30, wd_81, wd_1016⟩ (by decide +kernel) rfl ⟨rfl, rfl⟩ ⟨Nat.le_of_ble_eq_true rfl, Nat.le_of_ble_eq_true rfl⟩ (kd_lt kd_132 (by decide)) (ent_12 b cI cZ cO _ kd_132) rfl (Nat.le_of_ble_eq_true rfl) ⟨Nat.le_of_ble_eq_true rfl, Nat.le_of_ble_eq_true rfl⟩ dX12_takePerson_8 rfl (fun H locs G => ?_)
  refine lv_istore_n (lv' := [(2, .int r_2), (1, .int x1_1), (0, .ref (b + 132))]) hx hb dX12_takePerson_11 rfl hl (by decide) rfl (fun ls hl => ?_)
  refine lv_aload_n hx hb dX12_takePerson_12 rfl (lv_at hl 2 rfl) ?_
  refine gf_X12_32 C G kd_132 (n' := 139) rfl dX12_takePerson_13 ?_
  refine lv_iload_n hx hb dX12_takePerson_16 rfl (lv_at hl 1 rfl) ?_
  refine lv_aload_n hx hb dX12_takePerson_17 rfl (lv_at hl 2 rfl) ?_
  refine gf_X12_104 C G kd_132 dX12_takePerson_18 ?_
  obtain ⟨g_3, hs⟩ := gdE hs
  refine m_iast C G kd_139 ln_139 g_3 hs dX12_takePerson_21 (fun σ_3 H locs hs G => ?_)
  refine lv_iload_n hx hb dX12_takePerson_22 rfl (lv_at hl 0 rfl) ?_
  refine lv_if_le (tgt := 30) hx hb dX12_takePerson_23 (by decide) (fun c_4 => ?_) (fun c_4 => ?_)
  · replace hs := ifT c_4 hs
    refine lv_aload_n hx hb dX12_takePerson_30 rfl (lv_at hl 2 rfl) ?_
    refine lv_iconst (v := 0) hx hb dX12_takePerson_31 (by decide) ?_
    refine lv_aload_n hx hb dX12_takePerson_32 rfl (lv_at hl 2 rfl) ?_
    refine gf_X12_116 C G kd_132 dX12_takePerson_33 ?_
    refine lv_iconst (v := 1) hx hb dX12_takePerson_36 (by decide) ?_
    refine lv_isub hx hb dX12_takePerson_37 ?_
    obtain ⟨r_5, σ_5, hc, hs⟩ := biE hs
    refine callVI (ar := 2) (As := [.int 0, .int ((σ_3 132 16) - 1)]) (rest := []) C G hl.1 (ctX12_takeNumber _  hc) ⟨wd_1013, wd_1015, wd_30, wd_81, wd_1016⟩ (by decide +kernel) rfl ⟨rfl, rfl⟩ ⟨Nat.le_of_ble_eq_true rfl, Nat.le_of_ble_eq_true rfl⟩ (kd_lt kd_132 (by decide)) (ent_12 b cI cZ cO _ kd_132) rfl (Nat.le_of_ble_eq_true rfl) ⟨Nat.le_of_ble_eq_true rfl, Nat.le_of_ble_eq_true rfl⟩ dX12_takePerson_38 rfl (fun H locs G => ?_)
    exact wX12_takePerson_41 C   hs G (lv_sub hl [2, 1] rfl)
  · replace hs := ifF c_4 hs
    refine lv_iload_n hx hb dX12_takePerson_26 rfl (lv_at hl 0 rfl) ?_
    refine lv_goto (tgt := 41) hx hb dX12_takePerson_27 (by decide) ?_
    exact wX12_takePerson_41 C   hs G (lv_sub hl [2, 1] rfl)
-- X12_takeClause
def rmX12_takeClause : Room := { frames := 3, cells := 0, slots := 0, locals := 72 }
def fX12_takeClause_169 (σ : Sg) (x3 : Int32) : Option (Int32 × Sg) :=
  lt (st σ 132 12 ((σ 132 12) + 1)) (fun σ_13 => some (x3, σ_13))
set_option maxRecDepth 100000 in
set_option maxHeartbeats 4000000 in
theorem wX12_takeClause_169 {p : Program} {l : Launch} {e : Env} {s : State} {m : MethodId} {args : Array Value} {below : List Frame} {meth : Method} {c : Code} {D : va_G} {cI cZ cO : ClassId} {b : Nat} (C : Cx p s m args meth c cX12_takeClause RX12 4 (some .int) D cI cZ cO) {Rr : (Int32 × Sg)} {σ : Sg} {x3 : Int32} {H : Heap} {locs : List Loc} {ls : Array Slot} (hs : fX12_takeClause_169 σ x3 = some Rr) (G : Gd b D cI cZ cO σ s.heap H locs) (hl : lv_has ls 4 [(0, .ref (b + 132)), (3, .int x3)]) : W p l e rmX12_takeClause s m args below meth c H locs 0 0 (MQ below (QI b D cI cZ cO Rr) args s 0 0 (fun q => b ≤ q)) (F0 m 169 ls []) := by
  have hx := C.1
  have hb := C.2.1
  unfold fX12_takeClause_169 at hs
  refine lv_aload_n hx hb dX12_takeClause_169 rfl (lv_at hl 0 rfl) ?_
  refine lv_dup hx hb dX12_takeClause_170 rfl ?_
  refine gf_X12_89 C G kd_132 dX12_takeClause_171 ?_
  refine lv_iconst (v := 1) hx hb dX12_takeClause_174 (by decide) ?_
  refine lv_iadd hx hb dX12_takeClause_175 ?_
  refine pf_X12_89 C G kd_132 hs dX12_takeClause_176 (fun σ_13 H locs hs G => ?_)
  refine lv_iload_n hx hb dX12_takeClause_179 rfl (lv_at hl 1 rfl) ?_
  exact retI C G hs dX12_takeClause_180
def fX12_takeClause_145 (σ : Sg) (y0 : Int32) : Option (Int32 × Sg) :=
  (if y0 = 0 then bi (fX12_here σ) (fun r_14 σ_14 => (if r_14 = 59 then fX12_takeClause_169 σ_14 y0 else bi (fX12_fails σ_14 1 (σ_14 132 12)) (fun r_16 σ_16 => some (r_16, σ_16)))) else fX12_takeClause_169 σ y0)
set_option maxRecDepth 100000 in
set_option maxHeartbeats 4000000 in
theorem wX12_takeClause_145 {p : Program} {l : Launch} {e : Env} {s : State} {m : MethodId} {args : Array Value} {below : List Frame} {meth : Method} {c : Code} {D : va_G} {cI cZ cO : ClassId} {b : Nat} (C : Cx p s m args meth c cX12_takeClause RX12 4 (some .int) D cI cZ cO) {Rr : (Int32 × Sg)} {σ : Sg} {y0 : Int32} {H : Heap} {locs : List Loc} {ls : Array Slot} (hs : fX12_takeClause_145 σ y0 = some Rr) (G : Gd b D cI cZ cO σ s.heap H locs) (hl : lv_has ls 4 [(0, .ref (b + 132))]) : W p l e rmX12_takeClause s m args below meth c H locs 0 0 (MQ below (QI b D cI cZ cO Rr) args s 0 0 (fun q => b ≤ q)) (F0 m 145 ls [.int y0]) := by
  have hx := C.1
  have hb := C.2.1
  unfold fX12_takeClause_145 at hs
  refine lv_istore_n (lv' := [(3, .int y0), (0, .ref (b + 132))]) hx hb dX12_takeClause_145 rfl hl (by decide) rfl (fun ls hl => ?_)
  refine lv_iload_n hx hb dX12_takeClause_146 rfl (lv_at hl 0 rfl) ?_
  refine lv_if_ne (tgt := 169) hx hb dX12_takeClause_147 (by decide) (fun c_12 => ?_) (fun c_12 => ?_)
  · replace hs := ifF c_12 hs
    exact wX12_takeClause_169 C   hs G (lv_sub hl [1, 0] rfl)
  · replace hs := ifT c_12 hs
    refine lv_aload_n hx hb dX12_takeClause_150 rfl (lv_at hl 1 rfl) ?_
    obtain ⟨r_14, σ_14, hc, hs⟩ := biE hs
    refine callVI (ar := 0) (As := []) (rest := []) C G hl.1 (ctX12_here _  hc) ⟨wd_997, wd_999, wd_26, wd_81, wd_1000⟩ (by decide +kernel) rfl ⟨rfl, rfl⟩ ⟨Nat.le_of_ble_eq_true rfl, Nat.le_of_ble_eq_true rfl⟩ (kd_lt kd_132 (by decide)) (ent_12 b cI cZ cO _ kd_132) rfl (Nat.le_of_ble_eq_true rfl) ⟨Nat.le_of_ble_eq_true rfl, Nat.le_of_ble_eq_true rfl⟩ dX12_takeClause_151 rfl (fun H locs G => ?_)
    refine lv_bipush (v := 59) hx hb dX12_takeClause_154 (by decide) ?_
    refine lv_icmp_eq (tgt := 169) hx hb dX12_takeClause_156 (by decide) (fun c_15 => ?_) (fun c_15 => ?_)
    · replace hs := ifT c_15 hs
      exact wX12_takeClause_169 C   hs G (lv_sub hl [1, 0] rfl)
    · replace hs := ifF c_15 hs
      refine lv_aload_n hx hb dX12_takeClause_159 rfl (lv_at hl 1 rfl) ?_
      refine lv_iconst (v := 1) hx hb dX12_takeClause_160 (by decide) ?_
      refine lv_aload_n hx hb dX12_takeClause_161 rfl (lv_at hl 1 rfl) ?_
      refine gf_X12_89 C G kd_132 dX12_takeClause_162 ?_
      obtain ⟨r_16, σ_16, hc, hs⟩ := biE hs
      refine callVI (ar := 2) (As := [.int 1, .int (σ_14 132 12)]) (rest := []) C G hl.1 (ctX12_fails _  hc) ⟨wd_1005, wd_1007, wd_28, wd_81, wd_1008⟩ (by decide +kernel) rfl ⟨rfl, rfl⟩ ⟨Nat.le_of_ble_eq_true rfl, Nat.le_of_ble_eq_true rfl⟩ (kd_lt kd_132 (by decide)) (ent_12 b cI cZ cO _ kd_132) rfl (Nat.le_of_ble_eq_true rfl) ⟨Nat.le_of_ble_eq_true rfl, Nat.le_of_ble_eq_true rfl⟩ dX12_takeClause_165 rfl (fun H locs G => ?_)
      exact retI C G hs dX12_takeClause_168
def fX12_takeClause_105 (σ : Sg) (x1 : Int32) : Option (Int32 × Sg) :=
  lt (st σ 132 12 ((σ 132 12) + 1)) (fun σ_8 => (if x1 = 111 then bi (fX12_takeOracle σ_8) (fun r_18 σ_18 => fX12_takeClause_145 σ_18 r_18) else (if x1 = 118 then bi (fX12_takeVillage σ_8) (fun r_17 σ_17 => fX12_takeClause_145 σ_17 r_17) else bi (fX12_takePerson σ_8) (fun r_11 σ_11 => fX12_takeClause_145 σ_11 r_11))))
set_option maxRecDepth 100000 in
set_option maxHeartbeats 4000000 in
theorem wX12_takeClause_105 {p : Program} {l : Launch} {e : Env} {s : State} {m : MethodId} {args : Array Value} {below : List Frame} {meth : Method} {c : Code} {D : va_G} {cI cZ cO : ClassId} {b : Nat} (C : Cx p s m args meth c cX12_takeClause RX12 4 (some .int) D cI cZ cO) {Rr : (Int32 × Sg)} {σ : Sg} {x1 : Int32} {H : Heap} {locs : List Loc} {ls : Array Slot} (hs : fX12_takeClause_105 σ x1 = some Rr) (G : Gd b D cI cZ cO σ s.heap H locs) (hl : lv_has ls 4 [(0, .ref (b + 132)), (1, .int x1)]) : W p l e rmX12_takeClause s m args below meth c H locs 0 0 (MQ below (QI b D cI cZ cO Rr) args s 0 0 (fun q => b ≤ q)) (F0 m 105 ls []) := by
  have hx := C.1
  have hb := C.2.1
  unfold fX12_takeClause_105 at hs
  refine lv_aload_n hx hb dX12_takeClause_105 rfl (lv_at hl 0 rfl) ?_
  refine lv_dup hx hb dX12_takeClause_106 rfl ?_
  refine gf_X12_89 C G kd_132 dX12_takeClause_107 ?_
  refine lv_iconst (v := 1) hx hb dX12_takeClause_110 (by decide) ?_
  refine lv_iadd hx hb dX12_takeClause_111 ?_
  refine pf_X12_89 C G kd_132 hs dX12_takeClause_112 (fun σ_8 H locs hs G => ?_)
  refine lv_iload_n hx hb dX12_takeClause_115 rfl (lv_at hl 1 rfl) ?_
  refine lv_bipush (v := 111) hx hb dX12_takeClause_116 (by decide) ?_
  refine lv_icmp_ne (tgt := 128) hx hb dX12_takeClause_118 (by decide) (fun c_9 => ?_) (fun c_9 => ?_)
  · replace hs := ifF c_9 hs
    refine lv_iload_n hx hb dX12_takeClause_128 rfl (lv_at hl 1 rfl) ?_
    refine lv_bipush (v := 118) hx hb dX12_takeClause_129 (by decide) ?_
    refine lv_icmp_ne (tgt := 141) hx hb dX12_takeClause_131 (by decide) (fun c_10 => ?_) (fun c_10 => ?_)
    · replace hs := ifF c_10 hs
      refine lv_aload_n hx hb dX12_takeClause_141 rfl (lv_at hl 0 rfl) ?_
      obtain ⟨r_11, σ_11, hc, hs⟩ := biE hs
      refine callVI (ar := 0) (As := []) (rest := []) C G hl.1 (ctX12_takePerson _  hc) ⟨wd_1023, wd_1025, wd_32, wd_81, wd_1026⟩ (by decide +kernel) rfl ⟨rfl, rfl⟩ ⟨Nat.le_of_ble_eq_true rfl, Nat.le_of_ble_eq_true rfl⟩ (kd_lt kd_132 (by decide)) (ent_12 b cI cZ cO _ kd_132) rfl (Nat.le_of_ble_eq_true rfl) ⟨Nat.le_of_ble_eq_true rfl, Nat.le_of_ble_eq_true rfl⟩ dX12_takeClause_142 rfl (fun H locs G => ?_)
      exact wX12_takeClause_145 C   hs G (lv_sub hl [0] rfl)
    · replace hs := ifT c_10 hs
      refine lv_aload_n hx hb dX12_takeClause_134 rfl (lv_at hl 0 rfl) ?_
      obtain ⟨r_17, σ_17, hc, hs⟩ := biE hs
      refine callVI (ar := 0) (As := []) (rest := []) C G hl.1 (ctX12_takeVillage _  hc) ⟨wd_1019, wd_1021, wd_31, wd_81, wd_1022⟩ (by decide +kernel) rfl ⟨rfl, rfl⟩ ⟨Nat.le_of_ble_eq_true rfl, Nat.le_of_ble_eq_true rfl⟩ (kd_lt kd_132 (by decide)) (ent_12 b cI cZ cO _ kd_132) rfl (Nat.le_of_ble_eq_true rfl) ⟨Nat.le_of_ble_eq_true rfl, Nat.le_of_ble_eq_true rfl⟩ dX12_takeClause_135 rfl (fun H locs G => ?_)
      refine lv_goto (tgt := 145) hx hb dX12_takeClause_138 (by decide) ?_
      exact wX12_takeClause_145 C   hs G (lv_sub hl [0] rfl)
  · replace hs := ifT c_9 hs
    refine lv_aload_n hx hb dX12_takeClause_121 rfl (lv_at hl 0 rfl) ?_
    obtain ⟨r_18, σ_18, hc, hs⟩ := biE hs
    refine callVI (ar := 0) (As := []) (rest := []) C G hl.1 (ctX12_takeOracle _  hc) ⟨wd_1009, wd_1011, wd_29, wd_81, wd_1012⟩ (by decide +kernel) rfl ⟨rfl, rfl⟩ ⟨Nat.le_of_ble_eq_true rfl, Nat.le_of_ble_eq_true rfl⟩ (kd_lt kd_132 (by decide)) (ent_12 b cI cZ cO _ kd_132) rfl (Nat.le_of_ble_eq_true rfl) ⟨Nat.le_of_ble_eq_true rfl, Nat.le_of_ble_eq_true rfl⟩ dX12_takeClause_122 rfl (fun H locs G => ?_)
    refine lv_goto (tgt := 145) hx hb dX12_takeClause_125 (by decide) ?_
    exact wX12_takeClause_145 C   hs G (lv_sub hl [0] rfl)
def fX12_takeClause_95 (σ : Sg) : Option (Int32 × Sg) :=
  bi (fX12_fails σ 3 (σ 132 12)) (fun r_20 σ_20 => some (r_20, σ_20))
set_option maxRecDepth 100000 in
set_option maxHeartbeats 4000000 in
theorem wX12_takeClause_95 {p : Program} {l : Launch} {e : Env} {s : State} {m : MethodId} {args : Array Value} {below : List Frame} {meth : Method} {c : Code} {D : va_G} {cI cZ cO : ClassId} {b : Nat} (C : Cx p s m args meth c cX12_takeClause RX12 4 (some .int) D cI cZ cO) {Rr : (Int32 × Sg)} {σ : Sg} {H : Heap} {locs : List Loc} {ls : Array Slot} (hs : fX12_takeClause_95 σ = some Rr) (G : Gd b D cI cZ cO σ s.heap H locs) (hl : lv_has ls 4 [(0, .ref (b + 132))]) : W p l e rmX12_takeClause s m args below meth c H locs 0 0 (MQ below (QI b D cI cZ cO Rr) args s 0 0 (fun q => b ≤ q)) (F0 m 95 ls []) := by
  have hx := C.1
  have hb := C.2.1
  unfold fX12_takeClause_95 at hs
  refine lv_aload_n hx hb dX12_takeClause_95 rfl (lv_at hl 0 rfl) ?_
  refine lv_iconst (v := 3) hx hb dX12_takeClause_96 (by decide) ?_
  refine lv_aload_n hx hb dX12_takeClause_97 rfl (lv_at hl 0 rfl) ?_
  refine gf_X12_89 C G kd_132 dX12_takeClause_98 ?_
  obtain ⟨r_20, σ_20, hc, hs⟩ := biE hs
  refine callVI (ar := 2) (As := [.int 3, .int (σ 132 12)]) (rest := []) C G hl.1 (ctX12_fails _  hc) ⟨wd_1005, wd_1007, wd_28, wd_81, wd_1008⟩ (by decide +kernel) rfl ⟨rfl, rfl⟩ ⟨Nat.le_of_ble_eq_true rfl, Nat.le_of_ble_eq_true rfl⟩ (kd_lt kd_132 (by decide)) (ent_12 b cI cZ cO _ kd_132) rfl (Nat.le_of_ble_eq_true rfl) ⟨Nat.le_of_ble_eq_true rfl, Nat.le_of_ble_eq_true rfl⟩ dX12_takeClause_101 rfl (fun H locs G => ?_)
  exact retI C G hs dX12_takeClause_104
def fX12_takeClause_80 (σ : Sg) (x1 : Int32) : Option (Int32 × Sg) :=
  (if x1 = 112 then (if (σ 132 17) = 7 then fX12_takeClause_95 σ else fX12_takeClause_105 σ x1) else fX12_takeClause_105 σ x1)
set_option maxRecDepth 100000 in
set_option maxHeartbeats 4000000 in
theorem wX12_takeClause_80 {p : Program} {l : Launch} {e : Env} {s : State} {m : MethodId} {args : Array Value} {below : List Frame} {meth : Method} {c : Code} {D : va_G} {cI cZ cO : ClassId} {b : Nat} (C : Cx p s m args meth c cX12_takeClause RX12 4 (some .int) D cI cZ cO) {Rr : (Int32 × Sg)} {σ : Sg} {x1 : Int32} {H : Heap} {locs : List Loc} {ls : Array Slot} (hs : fX12_takeClause_80 σ x1 = some Rr) (G : Gd b D cI cZ cO σ s.heap H locs) (hl : lv_has ls 4 [(0, .ref (b + 132)), (1, .int x1)]) : W p l e rmX12_takeClause s m args below meth c H locs 0 0 (MQ below (QI b D cI cZ cO Rr) args s 0 0 (fun q => b ≤ q)) (F0 m 80 ls []) := by
  have hx := C.1
  have hb := C.2.1
  unfold fX12_takeClause_80 at hs
  refine lv_iload_n hx hb dX12_takeClause_80 rfl (lv_at hl 1 rfl) ?_
  refine lv_bipush (v := 112) hx hb dX12_takeClause_81 (by decide) ?_
  refine lv_icmp_ne (tgt := 105) hx hb dX12_takeClause_83 (by decide) (fun c_7 => ?_) (fun c_7 => ?_)
  · replace hs := ifF c_7 hs
    exact wX12_takeClause_105 C   hs G (lv_sub hl [0, 1] rfl)
  · replace hs := ifT c_7 hs
    refine lv_aload_n hx hb dX12_takeClause_86 rfl (lv_at hl 0 rfl) ?_
    refine gf_X12_119 C G kd_132 dX12_takeClause_87 ?_
    refine lv_bipush (v := 7) hx hb dX12_takeClause_90 (by decide) ?_
    refine lv_icmp_ne (tgt := 105) hx hb dX12_takeClause_92 (by decide) (fun c_19 => ?_) (fun c_19 => ?_)
    · replace hs := ifF c_19 hs
      exact wX12_takeClause_105 C   hs G (lv_sub hl [0, 1] rfl)
    · replace hs := ifT c_19 hs
      exact wX12_takeClause_95 C   hs G (lv_sub hl [0] rfl)
def fX12_takeClause_66 (σ : Sg) (x1 : Int32) : Option (Int32 × Sg) :=
  (if x1 = 118 then (if (σ 132 16) = 4 then fX12_takeClause_95 σ else fX12_takeClause_80 σ x1) else fX12_takeClause_80 σ x1)
set_option maxRecDepth 100000 in
set_option maxHeartbeats 4000000 in
theorem wX12_takeClause_66 {p : Program} {l : Launch} {e : Env} {s : State} {m : MethodId} {args : Array Value} {below : List Frame} {meth : Method} {c : Code} {D : va_G} {cI cZ cO : ClassId} {b : Nat} (C : Cx p s m args meth c cX12_takeClause RX12 4 (some .int) D cI cZ cO) {Rr : (Int32 × Sg)} {σ : Sg} {x1 : Int32} {H : Heap} {locs : List Loc} {ls : Array Slot} (hs : fX12_takeClause_66 σ x1 = some Rr) (G : Gd b D cI cZ cO σ s.heap H locs) (hl : lv_has ls 4 [(0, .ref (b + 132)), (1, .int x1)]) : W p l e rmX12_takeClause s m args below meth c H locs 0 0 (MQ below (QI b D cI cZ cO Rr) args s 0 0 (fun q => b ≤ q)) (F0 m 66 ls []) := by
  have hx := C.1
  have hb := C.2.1
  unfold fX12_takeClause_66 at hs
  refine lv_iload_n hx hb dX12_takeClause_66 rfl (lv_at hl 1 rfl) ?_
  refine lv_bipush (v := 118) hx hb dX12_takeClause_67 (by decide) ?_
  refine lv_icmp_ne (tgt := 80) hx hb dX12_takeClause_69 (by decide) (fun c_6 => ?_) (fun c_6 => ?_)
  · replace hs := ifF c_6 hs
    exact wX12_takeClause_80 C   hs G (lv_sub hl [0, 1] rfl)
  · replace hs := ifT c_6 hs
    refine lv_aload_n hx hb dX12_takeClause_72 rfl (lv_at hl 0 rfl) ?_
    refine gf_X12_116 C G kd_132 dX12_takeClause_73 ?_
    refine lv_iconst (v := 4) hx hb dX12_takeClause_76 (by decide) ?_
    refine lv_icmp_eq (tgt := 95) hx hb dX12_takeClause_77 (by decide) (fun c_21 => ?_) (fun c_21 => ?_)
    · replace hs := ifT c_21 hs
      exact wX12_takeClause_95 C   hs G (lv_sub hl [0] rfl)
    · replace hs := ifF c_21 hs
      exact wX12_takeClause_80 C   hs G (lv_sub hl [0, 1] rfl)
def fX12_takeClause_56 (σ : Sg) (x1 : Int32) (x2 : Int32) : Option (Int32 × Sg) :=
  (if x1 = 111 then (if x2 = 0 then fX12_takeClause_95 σ else fX12_takeClause_66 σ x1) else fX12_takeClause_66 σ x1)
set_option maxRecDepth 100000 in
set_option maxHeartbeats 4000000 in
theorem wX12_takeClause_56 {p : Program} {l : Launch} {e : Env} {s : State} {m : MethodId} {args : Array Value} {below : List Frame} {meth : Method} {c : Code} {D : va_G} {cI cZ cO : ClassId} {b : Nat} (C : Cx p s m args meth c cX12_takeClause RX12 4 (some .int) D cI cZ cO) {Rr : (Int32 × Sg)} {σ : Sg} {x1 : Int32} {x2 : Int32} {H : Heap} {locs : List Loc} {ls : Array Slot} (hs : fX12_takeClause_56 σ x1 x2 = some Rr) (G : Gd b D cI cZ cO σ s.heap H locs) (hl : lv_has ls 4 [(0, .ref (b + 132)), (1, .int x1), (2, .int x2)]) : W p l e rmX12_takeClause s m args below meth c H locs 0 0 (MQ below (QI b D cI cZ cO Rr) args s 0 0 (fun q => b ≤ q)) (F0 m 56 ls []) := by
  have hx := C.1
  have hb := C.2.1
  unfold fX12_takeClause_56 at hs
  refine lv_iload_n hx hb dX12_takeClause_56 rfl (lv_at hl 1 rfl) ?_
  refine lv_bipush (v := 111) hx hb dX12_takeClause_57 (by decide) ?_
  refine lv_icmp_ne (tgt := 66) hx hb dX12_takeClause_59 (by decide) (fun c_5 => ?_) (fun c_5 => ?_)
  · replace hs := ifF c_5 hs
    exact wX12_takeClause_66 C   hs G (lv_sub hl [0, 1] rfl)
  · replace hs := ifT c_5 hs
    refine lv_iload_n hx hb dX12_takeClause_62 rfl (lv_at hl 2 rfl) ?_
    refine lv_if_eq (tgt := 95) hx hb dX12_takeClause_63 (by decide) (fun c_22 => ?_) (fun c_22 => ?_)
    · replace hs := ifT c_22 hs
      exact wX12_takeClause_95 C   hs G (lv_sub hl [0] rfl)
    · replace hs := ifF c_22 hs
      exact wX12_takeClause_66 C   hs G (lv_sub hl [0, 1] rfl)
def fX12_takeClause_46 (σ : Sg) : Option (Int32 × Sg) :=
  bi (fX12_fails σ 1 (σ 132 12)) (fun r_24 σ_24 => some (r_24, σ_24))
set_option maxRecDepth 100000 in
set_option maxHeartbeats 4000000 in
theorem wX12_takeClause_46 {p : Program} {l : Launch} {e : Env} {s : State} {m : MethodId} {args : Array Value} {below : List Frame} {meth : Method} {c : Code} {D : va_G} {cI cZ cO : ClassId} {b : Nat} (C : Cx p s m args meth c cX12_takeClause RX12 4 (some .int) D cI cZ cO) {Rr : (Int32 × Sg)} {σ : Sg} {H : Heap} {locs : List Loc} {ls : Array Slot} (hs : fX12_takeClause_46 σ = some Rr) (G : Gd b D cI cZ cO σ s.heap H locs) (hl : lv_has ls 4 [(0, .ref (b + 132))]) : W p l e rmX12_takeClause s m args below meth c H locs 0 0 (MQ below (QI b D cI cZ cO Rr) args s 0 0 (fun q => b ≤ q)) (F0 m 46 ls []) := by
  have hx := C.1
  have hb := C.2.1
  unfold fX12_takeClause_46 at hs
  refine lv_aload_n hx hb dX12_takeClause_46 rfl (lv_at hl 0 rfl) ?_
  refine lv_iconst (v := 1) hx hb dX12_takeClause_47 (by decide) ?_
  refine lv_aload_n hx hb dX12_takeClause_48 rfl (lv_at hl 0 rfl) ?_
  refine gf_X12_89 C G kd_132 dX12_takeClause_49 ?_
  obtain ⟨r_24, σ_24, hc, hs⟩ := biE hs
  refine callVI (ar := 2) (As := [.int 1, .int (σ 132 12)]) (rest := []) C G hl.1 (ctX12_fails _  hc) ⟨wd_1005, wd_1007, wd_28, wd_81, wd_1008⟩ (by decide +kernel) rfl ⟨rfl, rfl⟩ ⟨Nat.le_of_ble_eq_true rfl, Nat.le_of_ble_eq_true rfl⟩ (kd_lt kd_132 (by decide)) (ent_12 b cI cZ cO _ kd_132) rfl (Nat.le_of_ble_eq_true rfl) ⟨Nat.le_of_ble_eq_true rfl, Nat.le_of_ble_eq_true rfl⟩ dX12_takeClause_52 rfl (fun H locs G => ?_)
  exact retI C G hs dX12_takeClause_55
def fX12_takeClause_36 (σ : Sg) (x1 : Int32) (x2 : Int32) : Option (Int32 × Sg) :=
  (if x2 = 0 then fX12_takeClause_56 σ x1 x2 else (if x1 = 111 then fX12_takeClause_56 σ x1 x2 else fX12_takeClause_46 σ))
set_option maxRecDepth 100000 in
set_option maxHeartbeats 4000000 in
theorem wX12_takeClause_36 {p : Program} {l : Launch} {e : Env} {s : State} {m : MethodId} {args : Array Value} {below : List Frame} {meth : Method} {c : Code} {D : va_G} {cI cZ cO : ClassId} {b : Nat} (C : Cx p s m args meth c cX12_takeClause RX12 4 (some .int) D cI cZ cO) {Rr : (Int32 × Sg)} {σ : Sg} {x1 : Int32} {x2 : Int32} {H : Heap} {locs : List Loc} {ls : Array Slot} (hs : fX12_takeClause_36 σ x1 x2 = some Rr) (G : Gd b D cI cZ cO σ s.heap H locs) (hl : lv_has ls 4 [(0, .ref (b + 132)), (1, .int x1), (2, .int x2)]) : W p l e rmX12_takeClause s m args below meth c H locs 0 0 (MQ below (QI b D cI cZ cO Rr) args s 0 0 (fun q => b ≤ q)) (F0 m 36 ls []) := by
  have hx := C.1
  have hb := C.2.1
  unfold fX12_takeClause_36 at hs
  refine lv_iload_n hx hb dX12_takeClause_36 rfl (lv_at hl 2 rfl) ?_
  refine lv_if_eq (tgt := 56) hx hb dX12_takeClause_37 (by decide) (fun c_4 => ?_) (fun c_4 => ?_)
  · replace hs := ifT c_4 hs
    exact wX12_takeClause_56 C   hs G (lv_sub hl [0, 1, 2] rfl)
  · replace hs := ifF c_4 hs
    refine lv_iload_n hx hb dX12_takeClause_40 rfl (lv_at hl 1 rfl) ?_
    refine lv_bipush (v := 111) hx hb dX12_takeClause_41 (by decide) ?_
    refine lv_icmp_eq (tgt := 56) hx hb dX12_takeClause_43 (by decide) (fun c_23 => ?_) (fun c_23 => ?_)
    · replace hs := ifT c_23 hs
      exact wX12_takeClause_56 C   hs G (lv_sub hl [0, 1, 2] rfl)
    · replace hs := ifF c_23 hs
      exact wX12_takeClause_46 C   hs G (lv_sub hl [0] rfl)
def fX12_takeClause_17 (σ : Sg) (x1 : Int32) (y0 : Int32) : Option (Int32 × Sg) :=
  (if x1 = 111 then fX12_takeClause_36 σ x1 y0 else (if x1 = 118 then fX12_takeClause_36 σ x1 y0 else (if x1 = 112 then fX12_takeClause_36 σ x1 y0 else fX12_takeClause_46 σ)))
set_option maxRecDepth 100000 in
set_option maxHeartbeats 4000000 in
theorem wX12_takeClause_17 {p : Program} {l : Launch} {e : Env} {s : State} {m : MethodId} {args : Array Value} {below : List Frame} {meth : Method} {c : Code} {D : va_G} {cI cZ cO : ClassId} {b : Nat} (C : Cx p s m args meth c cX12_takeClause RX12 4 (some .int) D cI cZ cO) {Rr : (Int32 × Sg)} {σ : Sg} {x1 : Int32} {y0 : Int32} {H : Heap} {locs : List Loc} {ls : Array Slot} (hs : fX12_takeClause_17 σ x1 y0 = some Rr) (G : Gd b D cI cZ cO σ s.heap H locs) (hl : lv_has ls 4 [(0, .ref (b + 132)), (1, .int x1)]) : W p l e rmX12_takeClause s m args below meth c H locs 0 0 (MQ below (QI b D cI cZ cO Rr) args s 0 0 (fun q => b ≤ q)) (F0 m 17 ls [.int y0]) := by
  have hx := C.1
  have hb := C.2.1
  unfold fX12_takeClause_17 at hs
  refine lv_istore_n (lv' := [(2, .int y0), (0, .ref (b + 132)), (1, .int x1)]) hx hb dX12_takeClause_17 rfl hl (by decide) rfl (fun ls hl => ?_)
  refine lv_iload_n hx hb dX12_takeClause_18 rfl (lv_at hl 2 rfl) ?_
  refine lv_bipush (v := 111) hx hb dX12_takeClause_19 (by decide) ?_
  refine lv_icmp_eq (tgt := 36) hx hb dX12_takeClause_21 (by decide) (fun c_3 => ?_) (fun c_3 => ?_)
  · replace hs := ifT c_3 hs
    exact wX12_takeClause_36 C   hs G (lv_sub hl [1, 2, 0] rfl)
  · replace hs := ifF c_3 hs
    refine lv_iload_n hx hb dX12_takeClause_24 rfl (lv_at hl 2 rfl) ?_
    refine lv_bipush (v := 118) hx hb dX12_takeClause_25 (by decide) ?_
    refine lv_icmp_eq (tgt := 36) hx hb dX12_takeClause_27 (by decide) (fun c_25 => ?_) (fun c_25 => ?_)
    · replace hs := ifT c_25 hs
      exact wX12_takeClause_36 C   hs G (lv_sub hl [1, 2, 0] rfl)
    · replace hs := ifF c_25 hs
      refine lv_iload_n hx hb dX12_takeClause_30 rfl (lv_at hl 2 rfl) ?_
      refine lv_bipush (v := 112) hx hb dX12_takeClause_31 (by decide) ?_
      refine lv_icmp_ne (tgt := 46) hx hb dX12_takeClause_33 (by decide) (fun c_26 => ?_) (fun c_26 => ?_)
      · replace hs := ifF c_26 hs
        exact wX12_takeClause_46 C   hs G (lv_sub hl [1] rfl)
      · replace hs := ifT c_26 hs
        exact wX12_takeClause_36 C   hs G (lv_sub hl [1, 2, 0] rfl)
def fX12_takeClause (σ : Sg) : Option (Int32 × Sg) :=
  bi (fX12_here σ) (fun r_1 σ_1 => (if (σ_1 132 14) = 0 then fX12_takeClause_17 σ_1 r_1 1 else fX12_takeClause_17 σ_1 r_1 0))
set_option maxRecDepth 100000 in
set_option maxHeartbeats 4000000 in
theorem ctX12_takeClause (l : Launch) {D : va_G} {cI cZ cO : ClassId} {b : Nat} {σ : Sg} {Rr : (Int32 × Sg)} (hs : fX12_takeClause σ = some Rr) : MI l yX12_takeClause cX12_takeClause 4 (some .int) rmX12_takeClause [.ref (b + 132)] b D cI cZ cO σ Rr := by
  unfold fX12_takeClause at hs
  refine metI (by decide +kernel) (Nat.le_of_ble_eq_true rfl) (fun p e s m below meth c ls C G hl => ?_)
  have C : Cx p s m _ meth c cX12_takeClause RX12 4 (some .int) D cI cZ cO := C
  have hx := C.1
  have hb := C.2.1
  have hl : lv_has ls 4 [(0, .ref (b + 132))] := hl
  refine lv_aload_n hx hb dX12_takeClause_0 rfl (lv_at hl 0 rfl) ?_
  obtain ⟨r_1, σ_1, hc, hs⟩ := biE hs
  refine callVI (ar := 0) (As := []) (rest := []) C G hl.1 (ctX12_here _  hc) ⟨wd_997, wd_999, wd_26, wd_81, wd_1000⟩ (by decide +kernel) rfl ⟨rfl, rfl⟩ ⟨Nat.le_of_ble_eq_true rfl, Nat.le_of_ble_eq_true rfl⟩ (kd_lt kd_132 (by decide)) (ent_12 b cI cZ cO _ kd_132) rfl (Nat.le_of_ble_eq_true rfl) ⟨Nat.le_of_ble_eq_true rfl, Nat.le_of_ble_eq_true rfl⟩ dX12_takeClause_1 rfl (fun H locs G => ?_)
  refine lv_istore_n (lv' := [(1, .int r_1), (0, .ref (b + 132))]) hx hb dX12_takeClause_4 rfl hl (by decide) rfl (fun ls hl => ?_)
  refine lv_aload_n hx hb dX12_takeClause_5 rfl (lv_at hl 1 rfl) ?_
  refine gf_X12_110 C G kd_132 dX12_takeClause_6 ?_
  refine lv_if_ne (tgt := 16) hx hb dX12_takeClause_9 (by decide) (fun c_2 => ?_) (fun c_2 => ?_)
  · replace hs := ifF c_2 hs
    refine lv_iconst (v := 0) hx hb dX12_takeClause_16 (by decide) ?_
    exact wX12_takeClause_17 C   hs G (lv_sub hl [1, 0] rfl)
  · replace hs := ifT c_2 hs
    refine lv_iconst (v := 1) hx hb dX12_takeClause_12 (by decide) ?_
    refine lv_goto (tgt := 17) hx hb dX12_takeClause_13 (by decide) ?_
    exact wX12_takeClause_17 C   hs G (lv_sub hl [1, 0] rfl)
