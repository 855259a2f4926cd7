-- X11_goBack
def rmX11_goBack : Room := { frames := 2, cells := 0, slots := 0, locals := 51 }
def fX11_goBack_9 (σ : Sg) : Option (Int32 × Sg) :=
  some ((-1000000001), σ)
set_option maxRecDepth 100000 in
set_option maxHeartbeats 4000000 in
theorem wX11_goBack_9 {p : Program} {l : Launch} {e : Env} {s : State} {m : MethodId} {args : Array Value} {below : List Frame} {meth : Method} {c : Code} {D : va_G} {cI cZ cO : ClassId} {b : Nat} (C : Cx p s m args meth c cX11_goBack RX11 2 (some .int) D cI cZ cO) {Rr : (Int32 × Sg)} {σ : Sg} {H : Heap} {locs : List Loc} {ls : Array Slot} (hs : fX11_goBack_9 σ = some Rr) (G : Gd b D cI cZ cO σ s.heap H locs) (hl : lv_has ls 2 []) : W p l e rmX11_goBack s m args below meth c H locs 0 0 (MQ below (QI b D cI cZ cO Rr) args s 0 0 (fun q => b ≤ q)) (F0 m 9 ls []) := by
  have hx := C.1
  have hb := C.2.1
  unfold fX11_goBack_9 at hs
  refine m_ldc C wd_593 dX11_goBack_9 ?_
  exact retI C G hs dX11_goBack_11
def fX11_goBack (σ : Sg) (x1 : Int32) : Option (Int32 × Sg) :=
  (if x1 < 0 then fX11_goBack_9 σ else (if x1 < 2 then (if inb x1 2 then (if (σ 100 x1.toNatClampNeg) = 0 then some ((-1000000003), σ) else (if inb x1 2 then gk 10 (103 + 5 * x1.toNatClampNeg) (fun n_5 => bv (fX10_copyFrom 11 n_5 σ) (fun σ_6 => (if inb x1 2 then lt (st σ_6 113 0 (σ_6 102 x1.toNatClampNeg)) (fun σ_8 => bv (fX7_forget σ_8) (fun σ_9 => some (1, σ_9))) else none))) else none)) else none) else fX11_goBack_9 σ))
set_option maxRecDepth 100000 in
set_option maxHeartbeats 4000000 in
theorem ctX11_goBack (l : Launch) {D : va_G} {cI cZ cO : ClassId} {b : Nat} {σ : Sg} {x1 : Int32} {Rr : (Int32 × Sg)} (hs : fX11_goBack σ x1 = some Rr) : MI l yX11_goBack cX11_goBack 2 (some .int) rmX11_goBack [.ref (b + 0), .int x1] b D cI cZ cO σ Rr := by
  unfold fX11_goBack at hs
  refine metI (by decide +kernel) (Nat.le_of_ble_eq_true rfl) (fun p e s m below meth c ls C G hl => ?_)
  have C : Cx p s m _ meth c cX11_goBack RX11 2 (some .int) D cI cZ cO := C
  have hx := C.1
  have hb := C.2.1
  have hl : lv_has ls 2 [(0, .ref (b + 0)), (1, .int x1)] := hl
  refine lv_iload_n hx hb dX11_goBack_0 rfl (lv_at hl 1 rfl) ?_
  refine lv_if_lt (tgt := 9) hx hb dX11_goBack_1 (by decide) (fun c_1 => ?_) (fun c_1 => ?_)
  · replace hs := ifT c_1 hs
    exact wX11_goBack_9 C   hs G (lv_sub hl [] rfl)
  · replace hs := ifF c_1 hs
    refine lv_iload_n hx hb dX11_goBack_4 rfl (lv_at hl 1 rfl) ?_
    refine lv_iconst (v := 2) hx hb dX11_goBack_5 (by decide) ?_
    refine lv_icmp_lt (tgt := 12) hx hb dX11_goBack_6 (by decide) (fun c_2 => ?_) (fun c_2 => ?_)
    · replace hs := ifT c_2 hs
      refine lv_aload_n hx hb dX11_goBack_12 rfl (lv_at hl 0 rfl) ?_
      refine gf_X11_33 C G kd_0 (n' := 99) rfl dX11_goBack_13 ?_
      refine gf_X11_296 C G kd_99 (n' := 100) rfl dX11_goBack_16 ?_
      refine lv_iload_n hx hb dX11_goBack_19 rfl (lv_at hl 1 rfl) ?_
      obtain ⟨g_3, hs⟩ := gdE hs
      refine m_zald C G kd_100 ln_100 g_3 dX11_goBack_20 ?_
      refine lv_if_ne (tgt := 27) hx hb dX11_goBack_21 (by decide) (fun c_4 => ?_) (fun c_4 => ?_)
      · replace hs := ifF c_4 hs
        refine lv_aload_n hx hb dX11_goBack_27 rfl (lv_at hl 0 rfl) ?_
        refine gf_X11_19 C G kd_0 (n' := 3) rfl dX11_goBack_28 ?_
        refine gf_X11_92 C G kd_3 (n' := 11) rfl dX11_goBack_31 ?_
        refine lv_aload_n hx hb dX11_goBack_34 rfl (lv_at hl 0 rfl) ?_
        refine gf_X11_33 C G kd_0 (n' := 99) rfl dX11_goBack_35 ?_
        refine gf_X11_300 C G kd_99 (n' := 101) rfl dX11_goBack_38 ?_
        refine lv_iload_n hx hb dX11_goBack_41 rfl (lv_at hl 1 rfl) ?_
        obtain ⟨g_5, hs⟩ := gdE hs
        obtain ⟨n_5, en_5, hk_5, hs⟩ := gkE hs
        refine m_aald16 C G kd_101 g_5 en_5.symm dX11_goBack_42 ?_
        obtain ⟨σ_6, hc, hs⟩ := bvE hs
        refine callVV (ar := 1) (As := [.ref (b + n_5)]) (rest := []) C G hl.1 (ctX10_copyFrom _ kd_11 hk_5 hc) ⟨wd_867, wd_655, wd_656, wd_73, wd_657⟩ (by decide +kernel) rfl ⟨rfl, rfl⟩ ⟨Nat.le_of_ble_eq_true rfl, Nat.le_of_ble_eq_true rfl⟩ (kd_lt kd_11 (by decide)) (ent_10 b cI cZ cO _ kd_11) rfl (Nat.le_of_ble_eq_true rfl) ⟨Nat.le_of_ble_eq_true rfl, Nat.le_of_ble_eq_true rfl⟩ dX11_goBack_43 rfl (fun H locs G => ?_)
        refine lv_aload_n hx hb dX11_goBack_46 rfl (lv_at hl 0 rfl) ?_
        refine gf_X11_40 C G kd_0 (n' := 113) rfl dX11_goBack_47 ?_
        refine lv_aload_n hx hb dX11_goBack_50 rfl (lv_at hl 0 rfl) ?_
        refine gf_X11_33 C G kd_0 (n' := 99) rfl dX11_goBack_51 ?_
        refine gf_X11_307 C G kd_99 (n' := 102) rfl dX11_goBack_54 ?_
        refine lv_iload_n hx hb dX11_goBack_57 rfl (lv_at hl 1 rfl) ?_
        obtain ⟨g_7, hs⟩ := gdE hs
        refine m_iald C G kd_102 ln_102 g_7 dX11_goBack_58 ?_
        refine pf_X11_289 C G kd_113 hs dX11_goBack_59 (fun σ_8 H locs hs G => ?_)
        refine lv_aload_n hx hb dX11_goBack_62 rfl (lv_at hl 0 rfl) ?_
        refine gf_X11_26 C G kd_0 (n' := 17) rfl dX11_goBack_63 ?_
        obtain ⟨σ_9, hc, hs⟩ := bvE hs
        refine callVV (ar := 0) (As := []) (rest := []) C G hl.1 (ctX7_forget _  hc) ⟨wd_505, wd_506, wd_507, wd_75, wd_508⟩ (by decide +kernel) rfl ⟨rfl, rfl⟩ ⟨Nat.le_of_ble_eq_true rfl, Nat.le_of_ble_eq_true rfl⟩ (kd_lt kd_17 (by decide)) (ent_7 b cI cZ cO _ kd_17) rfl (Nat.le_of_ble_eq_true rfl) ⟨Nat.le_of_ble_eq_true rfl, Nat.le_of_ble_eq_true rfl⟩ dX11_goBack_66 rfl (fun H locs G => ?_)
        refine lv_iconst (v := 1) hx hb dX11_goBack_69 (by decide) ?_
        exact retI C G hs dX11_goBack_70
      · replace hs := ifT c_4 hs
        refine m_ldc C wd_674 dX11_goBack_24 ?_
        exact retI C G hs dX11_goBack_26
    · replace hs := ifF c_2 hs
      exact wX11_goBack_9 C   hs G (lv_sub hl [] rfl)
-- X12_in
def rmX12_in : Room := { frames := 0, cells := 0, slots := 0, locals := 0 }
def fX12_in_17 (σ : Sg) : Option (Int32 × Sg) :=
  some (0, σ)
set_option maxRecDepth 100000 in
set_option maxHeartbeats 4000000 in
theorem wX12_in_17 {p : Program} {l : Launch} {e : Env} {s : State} {m : MethodId} {args : Array Value} {below : List Frame} {meth : Method} {c : Code} {D : va_G} {cI cZ cO : ClassId} {b : Nat} (C : Cx p s m args meth c cX12_in RX12 6 (some .boolean) D cI cZ cO) {Rr : (Int32 × Sg)} {σ : Sg} {H : Heap} {locs : List Loc} {ls : Array Slot} (hs : fX12_in_17 σ = some Rr) (G : Gd b D cI cZ cO σ s.heap H locs) (hl : lv_has ls 6 []) : W p l e rmX12_in s m args below meth c H locs 0 0 (MQ below (QI b D cI cZ cO Rr) args s 0 0 (fun q => b ≤ q)) (F0 m 17 ls []) := by
  have hx := C.1
  have hb := C.2.1
  unfold fX12_in_17 at hs
  refine lv_iconst (v := 0) hx hb dX12_in_17 (by decide) ?_
  exact retZ C G (by decide) hs dX12_in_18
def fX12_in (σ : Sg) (x0 : Int64) (x2 : Int64) (x4 : Int64) : Option (Int32 × Sg) :=
  (if (lg_cmp x0 x2) < 0 then fX12_in_17 σ else (if 0 < (lg_cmp x0 x4) then fX12_in_17 σ else some (1, σ)))
set_option maxRecDepth 100000 in
set_option maxHeartbeats 4000000 in
theorem ctX12_in (l : Launch) {D : va_G} {cI cZ cO : ClassId} {b : Nat} {σ : Sg} {x0 : Int64} {x2 : Int64} {x4 : Int64} {Rr : (Int32 × Sg)} (hs : fX12_in σ x0 x2 x4 = some Rr) : MI l yX12_in cX12_in 6 (some .boolean) rmX12_in [.long x0, .long x2, .long x4] b D cI cZ cO σ Rr := by
  unfold fX12_in at hs
  refine metI (by decide +kernel) (Nat.le_of_ble_eq_true rfl) (fun p e s m below meth c ls C G hl => ?_)
  have C : Cx p s m _ meth c cX12_in RX12 6 (some .boolean) D cI cZ cO := C
  have hx := C.1
  have hb := C.2.1
  have hl : lv_has ls 6 [(0, .long x0), (2, .long x2), (4, .long x4)] := hl
  refine lv_lload_n hx hb dX12_in_0 rfl (lv_at hl 0 rfl) ?_
  refine lv_lload_n hx hb dX12_in_1 rfl (lv_at hl 1 rfl) ?_
  refine W.lcmp hx hb dX12_in_2 ?_
  refine lv_if_lt (tgt := 17) hx hb dX12_in_3 (by decide) (fun c_1 => ?_) (fun c_1 => ?_)
  · replace hs := ifT c_1 hs
    exact wX12_in_17 C   hs G (lv_sub hl [] rfl)
  · replace hs := ifF c_1 hs
    refine lv_lload_n hx hb dX12_in_6 rfl (lv_at hl 0 rfl) ?_
    refine lv_lload hx hb dX12_in_7 (lv_at hl 2 rfl) ?_
    refine W.lcmp hx hb dX12_in_9 ?_
    refine lv_if_gt (tgt := 17) hx hb dX12_in_10 (by decide) (fun c_2 => ?_) (fun c_2 => ?_)
    · replace hs := ifT c_2 hs
      exact wX12_in_17 C   hs G (lv_sub hl [] rfl)
    · replace hs := ifF c_2 hs
      refine lv_iconst (v := 1) hx hb dX12_in_13 (by decide) ?_
      refine lv_goto (tgt := 18) hx hb dX12_in_14 (by decide) ?_
      exact retZ C G (by decide) hs dX12_in_18
-- X12_has
def rmX12_has : Room := { frames := 0, cells := 0, slots := 0, locals := 0 }
def fX12_has (σ : Sg) (x0 : Int32) (x1 : Int32) : Option (Int32 × Sg) :=
  (if ((x0 >>> (x1 &&& 31)) &&& 1) = 1 then some (1, σ) else some (0, σ))
set_option maxRecDepth 100000 in
set_option maxHeartbeats 4000000 in
theorem ctX12_has (l : Launch) {D : va_G} {cI cZ cO : ClassId} {b : Nat} {σ : Sg} {x0 : Int32} {x1 : Int32} {Rr : (Int32 × Sg)} (hs : fX12_has σ x0 x1 = some Rr) : MI l yX12_has cX12_has 2 (some .boolean) rmX12_has [.int x0, .int x1] b D cI cZ cO σ Rr := by
  unfold fX12_has at hs
  refine metI (by decide +kernel) (Nat.le_of_ble_eq_true rfl) (fun p e s m below meth c ls C G hl => ?_)
  have C : Cx p s m _ meth c cX12_has RX12 2 (some .boolean) D cI cZ cO := C
  have hx := C.1
  have hb := C.2.1
  have hl : lv_has ls 2 [(0, .int x0), (1, .int x1)] := hl
  refine lv_iload_n hx hb dX12_has_0 rfl (lv_at hl 0 rfl) ?_
  refine lv_iload_n hx hb dX12_has_1 rfl (lv_at hl 1 rfl) ?_
  refine lv_ishr hx hb dX12_has_2 ?_
  refine lv_iconst (v := 1) hx hb dX12_has_3 (by decide) ?_
  refine lv_iand hx hb dX12_has_4 ?_
  refine lv_iconst (v := 1) hx hb dX12_has_5 (by decide) ?_
  refine lv_icmp_ne (tgt := 13) hx hb dX12_has_6 (by decide) (fun c_1 => ?_) (fun c_1 => ?_)
  · replace hs := ifF c_1 hs
    refine lv_iconst (v := 0) hx hb dX12_has_13 (by decide) ?_
    exact retZ C G (by decide) hs dX12_has_14
  · replace hs := ifT c_1 hs
    refine lv_iconst (v := 1) hx hb dX12_has_9 (by decide) ?_
    refine lv_goto (tgt := 14) hx hb dX12_has_10 (by decide) ?_
    exact retZ C G (by decide) hs dX12_has_14
-- X12_isHills
def rmX12_isHills : Room := { frames := 0, cells := 0, slots := 0, locals := 0 }
def fX12_isHills (σ : Sg) : Option (Int32 × Sg) :=
  (if (σ 132 0) ≤ 0 then some (0, σ) else some (1, σ))
set_option maxRecDepth 100000 in
set_option maxHeartbeats 4000000 in
theorem ctX12_isHills (l : Launch) {D : va_G} {cI cZ cO : ClassId} {b : Nat} {σ : Sg} {Rr : (Int32 × Sg)} (hs : fX12_isHills σ = some Rr) : MI l yX12_isHills cX12_isHills 1 (some .boolean) rmX12_isHills [.ref (b + 132)] b D cI cZ cO σ Rr := by
  unfold fX12_isHills at hs
  refine metI (by decide +kernel) (Nat.le_of_ble_eq_true rfl) (fun p e s m below meth c ls C G hl => ?_)
  have C : Cx p s m _ meth c cX12_isHills RX12 1 (some .boolean) D cI cZ cO := C
  have hx := C.1
  have hb := C.2.1
  have hl : lv_has ls 1 [(0, .ref (b + 132))] := hl
  refine lv_aload_n hx hb dX12_isHills_0 rfl (lv_at hl 0 rfl) ?_
  refine gf_X12_69 C G kd_132 dX12_isHills_1 ?_
  refine lv_if_le (tgt := 11) hx hb dX12_isHills_4 (by decide) (fun c_1 => ?_) (fun c_1 => ?_)
  · replace hs := ifT c_1 hs
    refine lv_iconst (v := 0) hx hb dX12_isHills_11 (by decide) ?_
    exact retZ C G (by decide) hs dX12_isHills_12
  · replace hs := ifF c_1 hs
    refine lv_iconst (v := 1) hx hb dX12_isHills_7 (by decide) ?_
    refine lv_goto (tgt := 12) hx hb dX12_isHills_8 (by decide) ?_
    exact retZ C G (by decide) hs dX12_isHills_12
-- X12_isPerson
def rmX12_isPerson : Room := { frames := 1, cells := 0, slots := 0, locals := 25 }
def fX12_isPerson (σ : Sg) (x1 : Int32) : Option (Int32 × Sg) :=
  bi (fX12_in σ x1.toInt64 0 (((σ 132 3) - 1).toInt64)) (fun r_1 σ_1 => (if r_1 = 0 ∨ r_1 = 1 then some (r_1, σ_1) else none))
set_option maxRecDepth 100000 in
set_option maxHeartbeats 4000000 in
theorem ctX12_isPerson (l : Launch) {D : va_G} {cI cZ cO : ClassId} {b : Nat} {σ : Sg} {x1 : Int32} {Rr : (Int32 × Sg)} (hs : fX12_isPerson σ x1 = some Rr) : MI l yX12_isPerson cX12_isPerson 2 (some .boolean) rmX12_isPerson [.ref (b + 132), .int x1] b D cI cZ cO σ Rr := by
  unfold fX12_isPerson at hs
  refine metI (by decide +kernel) (Nat.le_of_ble_eq_true rfl) (fun p e s m below meth c ls C G hl => ?_)
  have C : Cx p s m _ meth c cX12_isPerson RX12 2 (some .boolean) D cI cZ cO := C
  have hx := C.1
  have hb := C.2.1
  have hl : lv_has ls 2 [(0, .ref (b + 132)), (1, .int x1)] := hl
  refine lv_iload_n hx hb dX12_isPerson_0 rfl (lv_at hl 1 rfl) ?_
  refine lv_i2l hx hb dX12_isPerson_1 rfl ?_
  refine lv_lconst (v := 0) hx hb dX12_isPerson_2 (by decide) ?_
  refine lv_aload_n hx hb dX12_isPerson_3 rfl (lv_at hl 0 rfl) ?_
  refine gf_X12_72 C G kd_132 dX12_isPerson_4 ?_
  refine lv_iconst (v := 1) hx hb dX12_isPerson_7 (by decide) ?_
  refine lv_isub hx hb dX12_isPerson_8 ?_
  refine lv_i2l hx hb dX12_isPerson_9 rfl ?_
  obtain ⟨r_1, σ_1, hc, hs⟩ := biE hs
  refine callSI (ar := 3) (As := [.long x1.toInt64, .long 0, .long (((σ 132 3) - 1).toInt64)]) (rest := []) C G hl.1 (ctX12_in _  hc) ⟨wd_988, wd_989, wd_81, wd_990⟩ (by decide +kernel) rfl ⟨rfl, rfl⟩ ⟨Nat.le_of_ble_eq_true rfl, Nat.le_of_ble_eq_true rfl⟩ (Nat.le_of_ble_eq_true rfl) ⟨Nat.le_of_ble_eq_true rfl, Nat.le_of_ble_eq_true rfl⟩ dX12_isPerson_10 rfl (fun H locs G => ?_)
  obtain ⟨g_2, hs⟩ := gdE hs
  exact retZ C G g_2 hs dX12_isPerson_13
-- X12_isVillage
def rmX12_isVillage : Room := { frames := 1, cells := 0, slots := 0, locals := 25 }
def fX12_isVillage (σ : Sg) (x1 : Int32) : Option (Int32 × Sg) :=
  bi (fX12_in σ x1.toInt64 0 (((σ 132 2) - 1).toInt64)) (fun r_1 σ_1 => (if r_1 = 0 ∨ r_1 = 1 then some (r_1, σ_1) else none))
set_option maxRecDepth 100000 in
set_option maxHeartbeats 4000000 in
theorem ctX12_isVillage (l : Launch) {D : va_G} {cI cZ cO : ClassId} {b : Nat} {σ : Sg} {x1 : Int32} {Rr : (Int32 × Sg)} (hs : fX12_isVillage σ x1 = some Rr) : MI l yX12_isVillage cX12_isVillage 2 (some .boolean) rmX12_isVillage [.ref (b + 132), .int x1] b D cI cZ cO σ Rr := by
  unfold fX12_isVillage at hs
  refine metI (by decide +kernel) (Nat.le_of_ble_eq_true rfl) (fun p e s m below meth c ls C G hl => ?_)
  have C : Cx p s m _ meth c cX12_isVillage RX12 2 (some .boolean) D cI cZ cO := C
  have hx := C.1
  have hb := C.2.1
  have hl : lv_has ls 2 [(0, .ref (b + 132)), (1, .int x1)] := hl
  refine lv_iload_n hx hb dX12_isVillage_0 rfl (lv_at hl 1 rfl) ?_
  refine lv_i2l hx hb dX12_isVillage_1 rfl ?_
  refine lv_lconst (v := 0) hx hb dX12_isVillage_2 (by decide) ?_
  refine lv_aload_n hx hb dX12_isVillage_3 rfl (lv_at hl 0 rfl) ?_
  refine gf_X12_79 C G kd_132 dX12_isVillage_4 ?_
  refine lv_iconst (v := 1) hx hb dX12_isVillage_7 (by decide) ?_
  refine lv_isub hx hb dX12_isVillage_8 ?_
  refine lv_i2l hx hb dX12_isVillage_9 rfl ?_
  obtain ⟨r_1, σ_1, hc, hs⟩ := biE hs
  refine callSI (ar := 3) (As := [.long x1.toInt64, .long 0, .long (((σ 132 2) - 1).toInt64)]) (rest := []) C G hl.1 (ctX12_in _  hc) ⟨wd_988, wd_989, wd_81, wd_990⟩ (by decide +kernel) rfl ⟨rfl, rfl⟩ ⟨Nat.le_of_ble_eq_true rfl, Nat.le_of_ble_eq_true rfl⟩ (Nat.le_of_ble_eq_true rfl) ⟨Nat.le_of_ble_eq_true rfl, Nat.le_of_ble_eq_true rfl⟩ dX12_isVillage_10 rfl (fun H locs G => ?_)
  obtain ⟨g_2, hs⟩ := gdE hs
  exact retZ C G g_2 hs dX12_isVillage_13
-- X12_feed
def rmX12_feed : Room := { frames := 1, cells := 0, slots := 0, locals := 25 }
def fX12_feed (σ : Sg) (x1 : Int32) : Option (Int32 × Sg) :=
  bi (fX12_in σ x1.toInt64 0 255) (fun r_1 σ_1 => (if r_1 = 0 then some ((-1000000002), σ_1) else (if (σ_1 132 10) = 240 then some ((-1000000004), σ_1) else (if inb (σ_1 132 10) 240 then lt (st σ_1 137 (σ_1 132 10).toNatClampNeg x1) (fun σ_4 => lt (st σ_4 132 10 ((σ_4 132 10) + 1)) (fun σ_5 => some ((σ_5 132 10), σ_5))) else none))))
set_option maxRecDepth 100000 in
set_option maxHeartbeats 4000000 in
theorem ctX12_feed (l : Launch) {D : va_G} {cI cZ cO : ClassId} {b : Nat} {σ : Sg} {x1 : Int32} {Rr : (Int32 × Sg)} (hs : fX12_feed σ x1 = some Rr) : MI l yX12_feed cX12_feed 2 (some .int) rmX12_feed [.ref (b + 132), .int x1] b D cI cZ cO σ Rr := by
  unfold fX12_feed at hs
  refine metI (by decide +kernel) (Nat.le_of_ble_eq_true rfl) (fun p e s m below meth c ls C G hl => ?_)
  have C : Cx p s m _ meth c cX12_feed RX12 2 (some .int) D cI cZ cO := C
  have hx := C.1
  have hb := C.2.1
  have hl : lv_has ls 2 [(0, .ref (b + 132)), (1, .int x1)] := hl
  refine lv_iload_n hx hb dX12_feed_0 rfl (lv_at hl 1 rfl) ?_
  refine lv_i2l hx hb dX12_feed_1 rfl ?_
  refine lv_lconst (v := 0) hx hb dX12_feed_2 (by decide) ?_
  refine m_ldc2 C wd_987 dX12_feed_3 ?_
  obtain ⟨r_1, σ_1, hc, hs⟩ := biE hs
  refine callSI (ar := 3) (As := [.long x1.toInt64, .long 0, .long 255]) (rest := []) C G hl.1 (ctX12_in _  hc) ⟨wd_988, wd_989, wd_81, wd_990⟩ (by decide +kernel) rfl ⟨rfl, rfl⟩ ⟨Nat.le_of_ble_eq_true rfl, Nat.le_of_ble_eq_true rfl⟩ (Nat.le_of_ble_eq_true rfl) ⟨Nat.le_of_ble_eq_true rfl, Nat.le_of_ble_eq_true rfl⟩ dX12_feed_6 rfl (fun H locs G => ?_)
  refine lv_if_ne (tgt := 15) hx hb dX12_feed_9 (by decide) (fun c_2 => ?_) (fun c_2 => ?_)
  · replace hs := ifF c_2 hs
    refine lv_aload_n hx hb dX12_feed_15 rfl (lv_at hl 0 rfl) ?_
    refine gf_X12_85 C G kd_132 dX12_feed_16 ?_
    refine lv_sipush (v := 240) hx hb dX12_feed_19 (by decide) ?_
    refine lv_icmp_ne (tgt := 28) hx hb dX12_feed_22 (by decide) (fun c_3 => ?_) (fun c_3 => ?_)
    · replace hs := ifF c_3 hs
      refine lv_aload_n hx hb dX12_feed_28 rfl (lv_at hl 0 rfl) ?_
      refine gf_X12_22 C G kd_132 (n' := 137) rfl dX12_feed_29 ?_
      refine lv_aload_n hx hb dX12_feed_32 rfl (lv_at hl 0 rfl) ?_
      refine gf_X12_85 C G kd_132 dX12_feed_33 ?_
      refine lv_iload_n hx hb dX12_feed_36 rfl (lv_at hl 1 rfl) ?_
      obtain ⟨g_4, hs⟩ := gdE hs
      refine m_iast C G kd_137 ln_137 g_4 hs dX12_feed_37 (fun σ_4 H locs hs G => ?_)
      refine lv_aload_n hx hb dX12_feed_38 rfl (lv_at hl 0 rfl) ?_
      refine lv_dup hx hb dX12_feed_39 rfl ?_
      refine gf_X12_85 C G kd_132 dX12_feed_40 ?_
      refine lv_iconst (v := 1) hx hb dX12_feed_43 (by decide) ?_
      refine lv_iadd hx hb dX12_feed_44 ?_
      refine pf_X12_85 C G kd_132 hs dX12_feed_45 (fun σ_5 H locs hs G => ?_)
      refine lv_aload_n hx hb dX12_feed_48 rfl (lv_at hl 0 rfl) ?_
      refine gf_X12_85 C G kd_132 dX12_feed_49 ?_
      exact retI C G hs dX12_feed_52
    · replace hs := ifT c_3 hs
      refine m_ldc C wd_992 dX12_feed_25 ?_
      exact retI C G hs dX12_feed_27
  · replace hs := ifT c_2 hs
    refine m_ldc C wd_991 dX12_feed_12 ?_
    exact retI C G hs dX12_feed_14
-- X12_here
def rmX12_here : Room := { frames := 0, cells := 0, slots := 0, locals := 0 }
def fX12_here_0b (kh : Sg → Option (Int32 × Sg)) (kx : Sg → Option (Int32 × Sg)) (σ : Sg) : Option (Int32 × Sg) :=
  (if (σ 132 10) ≤ (σ 132 12) then kx σ else (if inb (σ 132 12) 240 then (if (σ 137 (σ 132 12).toNatClampNeg) = 32 then lt (st σ 132 12 ((σ 132 12) + 1)) (fun σ_4 => kh σ_4) else kx σ) else none))
set_option maxRecDepth 100000 in
set_option maxHeartbeats 4000000 in
theorem wX12_here_0b {p : Program} {l : Launch} {e : Env} {s : State} {m : MethodId} {args : Array Value} {below : List Frame} {meth : Method} {c : Code} {D : va_G} {cI cZ cO : ClassId} {b : Nat} (C : Cx p s m args meth c cX12_here RX12 1 (some .int) D cI cZ cO) {Rr : (Int32 × Sg)} {kh : Sg → Option (Int32 × Sg)} {kx : Sg → Option (Int32 × Sg)} (hh : ∀ (σ : Sg) (H : Heap) (locs : List Loc) (ls : Array Slot), kh σ = some Rr → Gd b D cI cZ cO σ s.heap H locs → lv_has ls 1 [(0, .ref (b + 132))] → W p l e rmX12_here s m args below meth c H locs 0 0 (MQ below (QI b D cI cZ cO Rr) args s 0 0 (fun q => b ≤ q)) (F0 m 0 ls [])) (hxx : ∀ (σ : Sg) (H : Heap) (locs : List Loc) (ls : Array Slot), kx σ = some Rr → Gd b D cI cZ cO σ s.heap H locs → lv_has ls 1 [(0, .ref (b + 132))] → W p l e rmX12_here s m args below meth c H locs 0 0 (MQ below (QI b D cI cZ cO Rr) args s 0 0 (fun q => b ≤ q)) (F0 m 38 ls [])) {σ : Sg} {H : Heap} {locs : List Loc} {ls : Array Slot} (hs : fX12_here_0b kh kx σ = some Rr) (G : Gd b D cI cZ cO σ s.heap H locs) (hl : lv_has ls 1 [(0, .ref (b + 132))]) : W p l e rmX12_here s m args below meth c H locs 0 0 (MQ below (QI b D cI cZ cO Rr) args s 0 0 (fun q => b ≤ q)) (F0 m 0 ls []) := by
  have hx := C.1
  have hb := C.2.1
  unfold fX12_here_0b at hs
  refine lv_aload_n hx hb dX12_here_0 rfl (lv_at hl 0 rfl) ?_
  refine gf_X12_89 C G kd_132 dX12_here_1 ?_
  refine lv_aload_n hx hb dX12_here_4 rfl (lv_at hl 0 rfl) ?_
  refine gf_X12_85 C G kd_132 dX12_here_5 ?_
  refine lv_icmp_ge (tgt := 38) hx hb dX12_here_8 (by decide) (fun c_1 => ?_) (fun c_1 => ?_)
  · replace hs := ifT c_1 hs
    exact hxx _ _ _ _ hs G (lv_sub hl [0] rfl)
  · replace hs := ifF c_1 hs
    refine lv_aload_n hx hb dX12_here_11 rfl (lv_at hl 0 rfl) ?_
    refine gf_X12_22 C G kd_132 (n' := 137) rfl dX12_here_12 ?_
    refine lv_aload_n hx hb dX12_here_15 rfl (lv_at hl 0 rfl) ?_
    refine gf_X12_89 C G kd_132 dX12_here_16 ?_
    obtain ⟨g_2, hs⟩ := gdE hs
    refine m_iald C G kd_137 ln_137 g_2 dX12_here_19 ?_
    refine lv_bipush (v := 32) hx hb dX12_here_20 (by decide) ?_
    refine lv_icmp_ne (tgt := 38) hx hb dX12_here_22 (by decide) (fun c_3 => ?_) (fun c_3 => ?_)
    · replace hs := ifF c_3 hs
      exact hxx _ _ _ _ hs G (lv_sub hl [0] rfl)
    · replace hs := ifT c_3 hs
      refine lv_aload_n hx hb dX12_here_25 rfl (lv_at hl 0 rfl) ?_
      refine lv_dup hx hb dX12_here_26 rfl ?_
      refine gf_X12_89 C G kd_132 dX12_here_27 ?_
      refine lv_iconst (v := 1) hx hb dX12_here_30 (by decide) ?_
      refine lv_iadd hx hb dX12_here_31 ?_
      refine pf_X12_89 C G kd_132 hs dX12_here_32 (fun σ_4 H locs hs G => ?_)
      refine lv_goto (tgt := 0) hx hb dX12_here_35 (by decide) ?_
      exact hh _ _ _ _ hs G (lv_sub hl [0] rfl)
def fX12_here_0 : Nat → (Sg → Option (Int32 × Sg)) → Sg → Option (Int32 × Sg)
  | 0, _, _ => none
  | fu + 1, kx, σ => fX12_here_0b (fX12_here_0 fu kx) kx σ 
theorem fX12_here_0_s (fu : Nat) (kx : Sg → Option (Int32 × Sg)) (σ : Sg) : fX12_here_0 (fu + 1) kx σ  = fX12_here_0b (fX12_here_0 fu kx) kx σ  := by rw [fX12_here_0]
theorem wX12_here_0 {p : Program} {l : Launch} {e : Env} {s : State} {m : MethodId} {args : Array Value} {below : List Frame} {meth : Method} {c : Code} {D : va_G} {cI cZ cO : ClassId} {b : Nat} (C : Cx p s m args meth c cX12_here RX12 1 (some .int) D cI cZ cO) {Rr : (Int32 × Sg)} {kx : Sg → Option (Int32 × Sg)} (hxx : ∀ (σ : Sg) (H : Heap) (locs : List Loc) (ls : Array Slot), kx σ = some Rr → Gd b D cI cZ cO σ s.heap H locs → lv_has ls 1 [(0, .ref (b + 132))] → W p l e rmX12_here s m args below meth c H locs 0 0 (MQ below (QI b D cI cZ cO Rr) args s 0 0 (fun q => b ≤ q)) (F0 m 38 ls [])) : ∀ (fu : Nat) (σ : Sg) (H : Heap) (locs : List Loc) (ls : Array Slot), fX12_here_0 fu kx σ = some Rr → Gd b D cI cZ cO σ s.heap H locs → lv_has ls 1 [(0, .ref (b + 132))] → W p l e rmX12_here s m args below meth c H locs 0 0 (MQ below (QI b D cI cZ cO Rr) args s 0 0 (fun q => b ≤ q)) (F0 m 0 ls []) := by
  intro fu
  induction fu with
  | zero => intro σ H locs ls hs; cases hs
  | succ fu ih =>
    intro σ H locs ls hs G hl
    exact wX12_here_0b C (fun σ H locs ls hs G hl => ih σ H locs ls hs G hl) hxx hs G hl
def fX12_here_38 (σ : Sg) : Option (Int32 × Sg) :=
  (if (σ 132 10) ≤ (σ 132 12) then some ((-1), σ) else (if inb (σ 132 12) 240 then some ((σ 137 (σ 132 12).toNatClampNeg), σ) else none))
set_option maxRecDepth 100000 in
set_option maxHeartbeats 4000000 in
theorem wX12_here_38 {p : Program} {l : Launch} {e : Env} {s : State} {m : MethodId} {args : Array Value} {below : List Frame} {meth : Method} {c : Code} {D : va_G} {cI cZ cO : ClassId} {b : Nat} (C : Cx p s m args meth c cX12_here RX12 1 (some .int) D cI cZ cO) {Rr : (Int32 × Sg)} {σ : Sg} {H : Heap} {locs : List Loc} {ls : Array Slot} (hs : fX12_here_38 σ = some Rr) (G : Gd b D cI cZ cO σ s.heap H locs) (hl : lv_has ls 1 [(0, .ref (b + 132))]) : W p l e rmX12_here s m args below meth c H locs 0 0 (MQ below (QI b D cI cZ cO Rr) args s 0 0 (fun q => b ≤ q)) (F0 m 38 ls []) := by
  have hx := C.1
  have hb := C.2.1
  unfold fX12_here_38 at hs
  refine lv_aload_n hx hb dX12_here_38 rfl (lv_at hl 0 rfl) ?_
  refine gf_X12_89 C G kd_132 dX12_here_39 ?_
  refine lv_aload_n hx hb dX12_here_42 rfl (lv_at hl 0 rfl) ?_
  refine gf_X12_85 C G kd_132 dX12_here_43 ?_
  refine lv_icmp_ge (tgt := 61) hx hb dX12_here_46 (by decide) (fun c_6 => ?_) (fun c_6 => ?_)
  · replace hs := ifT c_6 hs
    refine lv_iconst (v := (-1)) hx hb dX12_here_61 (by decide) ?_
    exact retI C G hs dX12_here_62
  · replace hs := ifF c_6 hs
    refine lv_aload_n hx hb dX12_here_49 rfl (lv_at hl 0 rfl) ?_
    refine gf_X12_22 C G kd_132 (n' := 137) rfl dX12_here_50 ?_
    refine lv_aload_n hx hb dX12_here_53 rfl (lv_at hl 0 rfl) ?_
    refine gf_X12_89 C G kd_132 dX12_here_54 ?_
    obtain ⟨g_7, hs⟩ := gdE hs
    refine m_iald C G kd_137 ln_137 g_7 dX12_here_57 ?_
    refine lv_goto (tgt := 62) hx hb dX12_here_58 (by decide) ?_
    exact retI C G hs dX12_here_62
def fX12_here (σ : Sg) : Option (Int32 × Sg) :=
  fX12_here_0 FU (fun σ_5 => fX12_here_38 σ_5) σ
set_option maxRecDepth 100000 in
set_option maxHeartbeats 4000000 in
theorem ctX12_here (l : Launch) {D : va_G} {cI cZ cO : ClassId} {b : Nat} {σ : Sg} {Rr : (Int32 × Sg)} (hs : fX12_here σ = some Rr) : MI l yX12_here cX12_here 1 (some .int) rmX12_here [.ref (b + 132)] b D cI cZ cO σ Rr := by
  unfold fX12_here at hs
  refine metI (by decide +kernel) (Nat.le_of_ble_eq_true rfl) (fun p e s m below meth c ls C G hl => ?_)
  have C : Cx p s m _ meth c cX12_here RX12 1 (some .int) D cI cZ cO := C
  have hx := C.1
  have hb := C.2.1
  have hl : lv_has ls 1 [(0, .ref (b + 132))] := hl
  refine wX12_here_0 C (fun σ_5 H locs ls hs G hl => ?_) FU _ _ _ _ hs G (lv_sub hl [0] rfl)
  exact wX12_here_38 C   hs G (lv_sub hl [0] rfl)
-- X12_fails
def rmX12_fails : Room := { frames := 0, cells := 0, slots := 0, locals := 0 }
def fX12_fails (σ : Sg) (x1 : Int32) (x2 : Int32) : Option (Int32 × Sg) :=
  lt (st σ 132 11 x2) (fun σ_1 => some (x1, σ_1))
set_option maxRecDepth 100000 in
set_option maxHeartbeats 4000000 in
theorem ctX12_fails (l : Launch) {D : va_G} {cI cZ cO : ClassId} {b : Nat} {σ : Sg} {x1 : Int32} {x2 : Int32} {Rr : (Int32 × Sg)} (hs : fX12_fails σ x1 x2 = some Rr) : MI l yX12_fails cX12_fails 3 (some .int) rmX12_fails [.ref (b + 132), .int x1, .int x2] b D cI cZ cO σ Rr := by
  unfold fX12_fails at hs
  refine metI (by decide +kernel) (Nat.le_of_ble_eq_true rfl) (fun p e s m below meth c ls C G hl => ?_)
  have C : Cx p s m _ meth c cX12_fails RX12 3 (some .int) D cI cZ cO := C
  have hx := C.1
  have hb := C.2.1
  have hl : lv_has ls 3 [(0, .ref (b + 132)), (1, .int x1), (2, .int x2)] := hl
  refine lv_aload_n hx hb dX12_fails_0 rfl (lv_at hl 0 rfl) ?_
  refine lv_iload_n hx hb dX12_fails_1 rfl (lv_at hl 2 rfl) ?_
  refine pf_X12_25 C G kd_132 hs dX12_fails_2 (fun σ_1 H locs hs G => ?_)
  refine lv_iload_n hx hb dX12_fails_5 rfl (lv_at hl 1 rfl) ?_
  exact retI C G hs dX12_fails_6
-- X12_takeNumber
def rmX12_takeNumber : Room := { frames := 1, cells := 0, slots := 0, locals := 25 }
def fX12_takeNumber_108 (kh : Sg → Int32 → Int32 → Int32 → Option (Int32 × Sg)) (kx : Sg → Int32 → Int32 → Int32 → Option (Int32 × Sg)) (σ : Sg) (x1 : Int32) (x2 : Int32) (x3 : Int32) (y0 : Int32) : Option (Int32 × Sg) :=
  lt (st σ 132 13 y0) (fun σ_12 => lt (st σ_12 132 12 ((σ_12 132 12) + 1)) (fun σ_13 => kh σ_13 x1 x2 x3))
set_option maxRecDepth 100000 in
set_option maxHeartbeats 4000000 in
theorem wX12_takeNumber_108 {p : Program} {l : Launch} {e : Env} {s : State} {m : MethodId} {args : Array Value} {below : List Frame} {meth : Method} {c : Code} {D : va_G} {cI cZ cO : ClassId} {b : Nat} (C : Cx p s m args meth c cX12_takeNumber RX12 4 (some .int) D cI cZ cO) {Rr : (Int32 × Sg)} {kh : Sg → Int32 → Int32 → Int32 → Option (Int32 × Sg)} {kx : Sg → Int32 → Int32 → Int32 → Option (Int32 × Sg)} (hh : ∀ (σ : Sg) (x1 : Int32) (x2 : Int32) (x3 : Int32) (H : Heap) (locs : List Loc) (ls : Array Slot), kh σ x1 x2 x3 = some Rr → Gd b D cI cZ cO σ s.heap H locs → lv_has ls 4 [(0, .ref (b + 132)), (1, .int x1), (2, .int x2), (3, .int x3)] → W p l e rmX12_takeNumber s m args below meth c H locs 0 0 (MQ below (QI b D cI cZ cO Rr) args s 0 0 (fun q => b ≤ q)) (F0 m 37 ls [])) (hxx : ∀ (σ : Sg) (x1 : Int32) (x2 : Int32) (x3 : Int32) (H : Heap) (locs : List Loc) (ls : Array Slot), kx σ x1 x2 x3 = some Rr → Gd b D cI cZ cO σ s.heap H locs → lv_has ls 4 [(0, .ref (b + 132)), (1, .int x1), (2, .int x2), (3, .int x3)] → W p l e rmX12_takeNumber s m args below meth c H locs 0 0 (MQ below (QI b D cI cZ cO Rr) args s 0 0 (fun q => b ≤ q)) (F0 m 124 ls [])) {σ : Sg} {x1 : Int32} {x2 : Int32} {x3 : Int32} {y0 : Int32} {H : Heap} {locs : List Loc} {ls : Array Slot} (hs : fX12_takeNumber_108 kh kx σ x1 x2 x3 y0 = some Rr) (G : Gd b D cI cZ cO σ s.heap H locs) (hl : lv_has ls 4 [(0, .ref (b + 132)), (1, .int x1), (2, .int x2), (3, .int x3)]) : W p l e rmX12_takeNumber s m args below meth c H locs 0 0 (MQ below (QI b D cI cZ cO Rr) args s 0 0 (fun q => b ≤ q)) (F0 m 108 ls [.int y0, .ref (b + 132)]) := by
  have hx := C.1
  have hb := C.2.1
  unfold fX12_takeNumber_108 at hs
  refine pf_X12_104 C G kd_132 hs dX12_takeNumber_108 (fun σ_12 H locs hs G => ?_)
  refine lv_aload_n hx hb dX12_takeNumber_111 rfl (lv_at hl 0 rfl) ?_
  refine lv_dup hx hb dX12_takeNumber_112 rfl ?_
  refine gf_X12_89 C G kd_132 dX12_takeNumber_113 ?_
  refine lv_iconst (v := 1) hx hb dX12_takeNumber_116 (by decide) ?_
  refine lv_iadd hx hb dX12_takeNumber_117 ?_
  refine pf_X12_89 C G kd_132 hs dX12_takeNumber_118 (fun σ_13 H locs hs G => ?_)
  refine lv_goto (tgt := 37) hx hb dX12_takeNumber_121 (by decide) ?_
  exact hh _ _ _ _ _ _ _ hs G (lv_sub hl [0, 1, 2, 3] rfl)
def fX12_takeNumber_37b (kh : Sg → Int32 → Int32 → Int32 → Option (Int32 × Sg)) (kx : Sg → Int32 → Int32 → Int32 → Option (Int32 × Sg)) (σ : Sg) (x1 : Int32) (x2 : Int32) (x3 : Int32) : Option (Int32 × Sg) :=
  (if (σ 132 10) ≤ (σ 132 12) then kx σ x1 x2 x3 else (if inb (σ 132 12) 240 then bi (fX12_in σ ((σ 137 (σ 132 12).toNatClampNeg).toInt64) 48 57) (fun r_8 σ_8 => (if r_8 = 0 then kx σ_8 x1 x2 x3 else (if (σ_8 132 13) ≤ 1000 then (if inb (σ_8 132 12) 240 then fX12_takeNumber_108 kh kx σ_8 x1 x2 x3 (((10 * (σ_8 132 13)) + (σ_8 137 (σ_8 132 12).toNatClampNeg)) - 48) else none) else fX12_takeNumber_108 kh kx σ_8 x1 x2 x3 (σ_8 132 13)))) else none))
set_option maxRecDepth 100000 in
set_option maxHeartbeats 4000000 in
theorem wX12_takeNumber_37b {p : Program} {l : Launch} {e : Env} {s : State} {m : MethodId} {args : Array Value} {below : List Frame} {meth : Method} {c : Code} {D : va_G} {cI cZ cO : ClassId} {b : Nat} (C : Cx p s m args meth c cX12_takeNumber RX12 4 (some .int) D cI cZ cO) {Rr : (Int32 × Sg)} {kh : Sg → Int32 → Int32 → Int32 → Option (Int32 × Sg)} {kx : Sg → Int32 → Int32 → Int32 → Option (Int32 × Sg)} (hh : ∀ (σ : Sg) (x1 : Int32) (x2 : Int32) (x3 : Int32) (H : Heap) (locs : List Loc) (ls : Array Slot), kh σ x1 x2 x3 = some Rr → Gd b D cI cZ cO σ s.heap H locs → lv_has ls 4 [(0, .ref (b + 132)), (1, .int x1), (2, .int x2), (3, .int x3)] → W p l e rmX12_takeNumber s m args below meth c H locs 0 0 (MQ below (QI b D cI cZ cO Rr) args s 0 0 (fun q => b ≤ q)) (F0 m 37 ls [])) (hxx : ∀ (σ : Sg) (x1 : Int32) (x2 : Int32) (x3 : Int32) (H : Heap) (locs : List Loc) (ls : Array Slot), kx σ x1 x2 x3 = some Rr → Gd b D cI cZ cO σ s.heap H locs → lv_has ls 4 [(0, .ref (b + 132)), (1, .int x1), (2, .int x2), (3, .int x3)] → W p l e rmX12_takeNumber s m args below meth c H locs 0 0 (MQ below (QI b D cI cZ cO Rr) args s 0 0 (fun q => b ≤ q)) (F0 m 124 ls [])) {σ : Sg} {x1 : Int32} {x2 : Int32} {x3 : Int32} {H : Heap} {locs : List Loc} {ls : Array Slot} (hs : fX12_takeNumber_37b kh kx σ x1 x2 x3 = some Rr) (G : Gd b D cI cZ cO σ s.heap H locs) (hl : lv_has ls 4 [(0, .ref (b + 132)), (1, .int x1), (2, .int x2), (3, .int x3)]) : W p l e rmX12_takeNumber s m args below meth c H locs 0 0 (MQ below (QI b D cI cZ cO Rr) args s 0 0 (fun q => b ≤ q)) (F0 m 37 ls []) := by
  have hx := C.1
  have hb := C.2.1
  unfold fX12_takeNumber_37b at hs
  refine lv_aload_n hx hb dX12_takeNumber_37 rfl (lv_at hl 0 rfl) ?_
  refine gf_X12_89 C G kd_132 dX12_takeNumber_38 ?_
  refine lv_aload_n hx hb dX12_takeNumber_41 rfl (lv_at hl 0 rfl) ?_
  refine gf_X12_85 C G kd_132 dX12_takeNumber_42 ?_
  refine lv_icmp_ge (tgt := 124) hx hb dX12_takeNumber_45 (by decide) (fun c_6 => ?_) (fun c_6 => ?_)
  · replace hs := ifT c_6 hs
    exact hxx _ _ _ _ _ _ _ hs G (lv_sub hl [0, 1, 2, 3] rfl)
  · replace hs := ifF c_6 hs
    refine lv_aload_n hx hb dX12_takeNumber_48 rfl (lv_at hl 0 rfl) ?_
    refine gf_X12_22 C G kd_132 (n' := 137) rfl dX12_takeNumber_49 ?_
    refine lv_aload_n hx hb dX12_takeNumber_52 rfl (lv_at hl 0 rfl) ?_
    refine gf_X12_89 C G kd_132 dX12_takeNumber_53 ?_
    obtain ⟨g_7, hs⟩ := gdE hs
    refine m_iald C G kd_137 ln_137 g_7 dX12_takeNumber_56 ?_
    refine lv_i2l hx hb dX12_takeNumber_57 rfl ?_
    refine m_ldc2 C wd_1017 dX12_takeNumber_58 ?_
    refine m_ldc2 C wd_1018 dX12_takeNumber_61 ?_
    obtain ⟨r_8, σ_8, hc, hs⟩ := biE hs
    refine callSI (ar := 3) (As := [.long ((σ 137 (σ 132 12).toNatClampNeg).toInt64), .long 48, .long 57]) (rest := []) C G hl.1 (ctX12_in _  hc) ⟨wd_988, wd_989, wd_81, wd_990⟩ (by decide +kernel) rfl ⟨rfl, rfl⟩ ⟨Nat.le_of_ble_eq_true rfl, Nat.le_of_ble_eq_true rfl⟩ (Nat.le_of_ble_eq_true rfl) ⟨Nat.le_of_ble_eq_true rfl, Nat.le_of_ble_eq_true rfl⟩ dX12_takeNumber_64 rfl (fun H locs G => ?_)
    refine lv_if_eq (tgt := 124) hx hb dX12_takeNumber_67 (by decide) (fun c_9 => ?_) (fun c_9 => ?_)
    · replace hs := ifT c_9 hs
      exact hxx _ _ _ _ _ _ _ hs G (lv_sub hl [0, 1, 2, 3] rfl)
    · replace hs := ifF c_9 hs
      refine lv_aload_n hx hb dX12_takeNumber_70 rfl (lv_at hl 0 rfl) ?_
      refine lv_aload_n hx hb dX12_takeNumber_71 rfl (lv_at hl 0 rfl) ?_
      refine gf_X12_104 C G kd_132 dX12_takeNumber_72 ?_
      refine lv_sipush (v := 1000) hx hb dX12_takeNumber_75 (by decide) ?_
      refine lv_icmp_le (tgt := 88) hx hb dX12_takeNumber_78 (by decide) (fun c_10 => ?_) (fun c_10 => ?_)
      · replace hs := ifT c_10 hs
        refine lv_bipush (v := 10) hx hb dX12_takeNumber_88 (by decide) ?_
        refine lv_aload_n hx hb dX12_takeNumber_90 rfl (lv_at hl 0 rfl) ?_
        refine gf_X12_104 C G kd_132 dX12_takeNumber_91 ?_
        refine lv_imul hx hb dX12_takeNumber_94 ?_
        refine lv_aload_n hx hb dX12_takeNumber_95 rfl (lv_at hl 0 rfl) ?_
        refine gf_X12_22 C G kd_132 (n' := 137) rfl dX12_takeNumber_96 ?_
        refine lv_aload_n hx hb dX12_takeNumber_99 rfl (lv_at hl 0 rfl) ?_
        refine gf_X12_89 C G kd_132 dX12_takeNumber_100 ?_
        obtain ⟨g_11, hs⟩ := gdE hs
        refine m_iald C G kd_137 ln_137 g_11 dX12_takeNumber_103 ?_
        refine lv_iadd hx hb dX12_takeNumber_104 ?_
        refine lv_bipush (v := 48) hx hb dX12_takeNumber_105 (by decide) ?_
        refine lv_isub hx hb dX12_takeNumber_107 ?_
        exact wX12_takeNumber_108 C  hh hxx hs G (lv_sub hl [0, 1, 2, 3] rfl)
      · replace hs := ifF c_10 hs
        refine lv_aload_n hx hb dX12_takeNumber_81 rfl (lv_at hl 0 rfl) ?_
        refine gf_X12_104 C G kd_132 dX12_takeNumber_82 ?_
        refine lv_goto (tgt := 108) hx hb dX12_takeNumber_85 (by decide) ?_
        exact wX12_takeNumber_108 C  hh hxx hs G (lv_sub hl [0, 1, 2, 3] rfl)
def fX12_takeNumber_37 : Nat → (Sg → Int32 → Int32 → Int32 → Option (Int32 × Sg)) → Sg → Int32 → Int32 → Int32 → Option (Int32 × Sg)
  | 0, _, _, _, _, _ => none
  | fu + 1, kx, σ, x1, x2, x3 => fX12_takeNumber_37b (fX12_takeNumber_37 fu kx) kx σ x1 x2 x3
theorem fX12_takeNumber_37_s (fu : Nat) (kx : Sg → Int32 → Int32 → Int32 → Option (Int32 × Sg)) (σ : Sg) (x1 : Int32) (x2 : Int32) (x3 : Int32) : fX12_takeNumber_37 (fu + 1) kx σ x1 x2 x3 = fX12_takeNumber_37b (fX12_takeNumber_37 fu kx) kx σ x1 x2 x3 := by rw [fX12_takeNumber_37]
theorem wX12_takeNumber_37 {p : Program} {l : Launch} {e : Env} {s : State} {m : MethodId} {args : Array Value} {below : List Frame} {meth : Method} {c : Code} {D : va_G} {cI cZ cO : ClassId} {b : Nat} (C : Cx p s m args meth c cX12_takeNumber RX12 4 (some .int) D cI cZ cO) {Rr : (Int32 × Sg)} {kx : Sg → Int32 → Int32 → Int32 → Option (Int32 × Sg)} (hxx : ∀ (σ : Sg) (x1 : Int32) (x2 : Int32) (x3 : Int32) (H : Heap) (locs : List Loc) (ls : Array Slot), kx σ x1 x2 x3 = some Rr → Gd b D cI cZ cO σ s.heap H locs → lv_has ls 4 [(0, .ref (b + 132)), (1, .int x1), (2, .int x2), (3, .int x3)] → W p l e rmX12_takeNumber s m args below meth c H locs 0 0 (MQ below (QI b D cI cZ cO Rr) args s 0 0 (fun q => b ≤ q)) (F0 m 124 ls [])) : ∀ (fu : Nat) (σ : Sg) (x1 : Int32) (x2 : Int32) (x3 : Int32) (H : Heap) (locs : List Loc) (ls : Array Slot), fX12_takeNumber_37 fu kx σ x1 x2 x3 = some Rr → Gd b D cI cZ cO σ s.heap H locs → lv_has ls 4 [(0, .ref (b + 132)), (1, .int x1), (2, .int x2), (3, .int x3)] → W p l e rmX12_takeNumber s m args below meth c H locs 0 0 (MQ below (QI b D cI cZ cO Rr) args s 0 0 (fun q => b ≤ q)) (F0 m 37 ls []) := by
  intro fu
  induction fu with
  | zero => intro σ x1 x2 x3 H locs ls hs; cases hs
  | succ fu ih =>
    intro σ x1 x2 x3 H locs ls hs G hl
    exact wX12_takeNumber_37b C (fun σ x1 x2 x3 H locs ls hs G hl => ih σ x1 x2 x3 H locs ls hs G hl) hxx hs G hl
def fX12_takeNumber_149 (σ : Sg) (x3 : Int32) : Option (Int32 × Sg) :=
  bi (fX12_fails σ 2 x3) (fun r_16 σ_16 => some (r_16, σ_16))
set_option maxRecDepth 100000 in
set_option maxHeartbeats 4000000 in
theorem wX12_takeNumber_149 {p : Program} {l : Launch} {e : Env} {s : State} {m : MethodId} {args : Array Value} {below : List Frame} {meth : Method} {c : Code} {D : va_G} {cI cZ cO : ClassId} {b : Nat} (C : Cx p s m args meth c cX12_takeNumber RX12 4 (some .int) D cI cZ cO) {Rr : (Int32 × Sg)} {σ : Sg} {x3 : Int32} {H : Heap} {locs : List Loc} {ls : Array Slot} (hs : fX12_takeNumber_149 σ x3 = some Rr) (G : Gd b D cI cZ cO σ s.heap H locs) (hl : lv_has ls 4 [(0, .ref (b + 132)), (3, .int x3)]) : W p l e rmX12_takeNumber s m args below meth c H locs 0 0 (MQ below (QI b D cI cZ cO Rr) args s 0 0 (fun q => b ≤ q)) (F0 m 149 ls []) := by
  have hx := C.1
  have hb := C.2.1
  unfold fX12_takeNumber_149 at hs
  refine lv_aload_n hx hb dX12_takeNumber_149 rfl (lv_at hl 0 rfl) ?_
  refine lv_iconst (v := 2) hx hb dX12_takeNumber_150 (by decide) ?_
  refine lv_iload_n hx hb dX12_takeNumber_151 rfl (lv_at hl 1 rfl) ?_
  obtain ⟨r_16, σ_16, hc, hs⟩ := biE hs
  refine callVI (ar := 2) (As := [.int 2, .int x3]) (rest := []) C G hl.1 (ctX12_fails _  hc) ⟨wd_1005, wd_1007, wd_28, wd_81, wd_1008⟩ (by decide +kernel) rfl ⟨rfl, rfl⟩ ⟨Nat.le_of_ble_eq_true rfl, Nat.le_of_ble_eq_true rfl⟩ (kd_lt kd_132 (by decide)) (ent_12 b cI cZ cO _ kd_132) rfl (Nat.le_of_ble_eq_true rfl) ⟨Nat.le_of_ble_eq_true rfl, Nat.le_of_ble_eq_true rfl⟩ dX12_takeNumber_152 rfl (fun H locs G => ?_)
  refine lv_goto (tgt := 159) hx hb dX12_takeNumber_155 (by decide) ?_
  exact retI C G hs dX12_takeNumber_159
def fX12_takeNumber_124 (σ : Sg) (x1 : Int32) (x2 : Int32) (x3 : Int32) : Option (Int32 × Sg) :=
  (if 3 < ((σ 132 12) - x3) then fX12_takeNumber_149 σ x3 else bi (fX12_in σ ((σ 132 13).toInt64) x1.toInt64 x2.toInt64) (fun r_17 σ_17 => (if r_17 = 0 then fX12_takeNumber_149 σ_17 x3 else some (0, σ_17))))
set_option maxRecDepth 100000 in
set_option maxHeartbeats 4000000 in
theorem wX12_takeNumber_124 {p : Program} {l : Launch} {e : Env} {s : State} {m : MethodId} {args : Array Value} {below : List Frame} {meth : Method} {c : Code} {D : va_G} {cI cZ cO : ClassId} {b : Nat} (C : Cx p s m args meth c cX12_takeNumber RX12 4 (some .int) D cI cZ cO) {Rr : (Int32 × Sg)} {σ : Sg} {x1 : Int32} {x2 : Int32} {x3 : Int32} {H : Heap} {locs : List Loc} {ls : Array Slot} (hs : fX12_takeNumber_124 σ x1 x2 x3 = some Rr) (G : Gd b D cI cZ cO σ s.heap H locs) (hl : lv_has ls 4 [(0, .ref (b + 132)), (1, .int x1), (2, .int x2), (3, .int x3)]) : W p l e rmX12_takeNumber s m args below meth c H locs 0 0 (MQ below (QI b D cI cZ cO Rr) args s 0 0 (fun q => b ≤ q)) (F0 m 124 ls []) := by
  have hx := C.1
  have hb := C.2.1
  unfold fX12_takeNumber_124 at hs
  refine lv_aload_n hx hb dX12_takeNumber_124 rfl (lv_at hl 0 rfl) ?_
  refine gf_X12_89 C G kd_132 dX12_takeNumber_125 ?_
  refine lv_iload_n hx hb dX12_takeNumber_128 rfl (lv_at hl 3 rfl) ?_
  refine lv_isub hx hb dX12_takeNumber_129 ?_
  refine lv_iconst (v := 3) hx hb dX12_takeNumber_130 (by decide) ?_
  refine lv_icmp_gt (tgt := 149) hx hb dX12_takeNumber_131 (by decide) (fun c_15 => ?_) (fun c_15 => ?_)
  · replace hs := ifT c_15 hs
    exact wX12_takeNumber_149 C   hs G (lv_sub hl [0, 3] rfl)
  · replace hs := ifF c_15 hs
    refine lv_aload_n hx hb dX12_takeNumber_134 rfl (lv_at hl 0 rfl) ?_
    refine gf_X12_104 C G kd_132 dX12_takeNumber_135 ?_
    refine lv_i2l hx hb dX12_takeNumber_138 rfl ?_
    refine lv_iload_n hx hb dX12_takeNumber_139 rfl (lv_at hl 1 rfl) ?_
    refine lv_i2l hx hb dX12_takeNumber_140 rfl ?_
    refine lv_iload_n hx hb dX12_takeNumber_141 rfl (lv_at hl 2 rfl) ?_
    refine lv_i2l hx hb dX12_takeNumber_142 rfl ?_
    obtain ⟨r_17, σ_17, hc, hs⟩ := biE hs
    refine callSI (ar := 3) (As := [.long ((σ 132 13).toInt64), .long x1.toInt64, .long x2.toInt64]) (rest := []) C G hl.1 (ctX12_in _  hc) ⟨wd_988, wd_989, wd_81, wd_990⟩ (by decide +kernel) rfl ⟨rfl, rfl⟩ ⟨Nat.le_of_ble_eq_true rfl, Nat.le_of_ble_eq_true rfl⟩ (Nat.le_of_ble_eq_true rfl) ⟨Nat.le_of_ble_eq_true rfl, Nat.le_of_ble_eq_true rfl⟩ dX12_takeNumber_143 rfl (fun H locs G => ?_)
    refine lv_if_ne (tgt := 158) hx hb dX12_takeNumber_146 (by decide) (fun c_18 => ?_) (fun c_18 => ?_)
    · replace hs := ifF c_18 hs
      refine lv_iconst (v := 0) hx hb dX12_takeNumber_158 (by decide) ?_
      exact retI C G hs dX12_takeNumber_159
    · replace hs := ifT c_18 hs
      exact wX12_takeNumber_149 C   hs G (lv_sub hl [0, 3] rfl)
def fX12_takeNumber (σ : Sg) (x1 : Int32) (x2 : Int32) : Option (Int32 × Sg) :=
  bi (fX12_here σ) (fun r_1 σ_1 => bi (fX12_in σ_1 r_1.toInt64 48 57) (fun r_2 σ_2 => (if r_2 = 0 then bi (fX12_fails σ_2 1 (σ_2 132 12)) (fun r_19 σ_19 => some (r_19, σ_19)) else lt (σ_2 132 12) (fun x3_4 => lt (st σ_2 132 13 0) (fun σ_5 => fX12_takeNumber_37 FU (fun σ_14 x1_14 x2_14 x3_14 => fX12_takeNumber_124 σ_14 x1_14 x2_14 x3_14) σ_5 x1 x2 x3_4)))))
set_option maxRecDepth 100000 in
set_option maxHeartbeats 4000000 in
theorem ctX12_takeNumber (l : Launch) {D : va_G} {cI cZ cO : ClassId} {b : Nat} {σ : Sg} {x1 : Int32} {x2 : Int32} {Rr : (Int32 × Sg)} (hs : fX12_takeNumber σ x1 x2 = some Rr) : MI l yX12_takeNumber cX12_takeNumber 4 (some .int) rmX12_takeNumber [.ref (b + 132), .int x1, .int x2] b D cI cZ cO σ Rr := by
  unfold fX12_takeNumber at hs
  refine metI (by decide +kernel) (Nat.le_of_ble_eq_true rfl) (fun p e s m below meth c ls C G hl => ?_)
  have C : Cx p s m _ meth c cX12_takeNumber RX12 4 (some .int) D cI cZ cO := C
  have hx := C.1
  have hb := C.2.1
  have hl : lv_has ls 4 [(0, .ref (b + 132)), (1, .int x1), (2, .int x2)] := hl
  refine lv_aload_n hx hb dX12_takeNumber_0 rfl (lv_at hl 0 rfl) ?_
  obtain ⟨r_1, σ_1, hc, hs⟩ := biE hs
  refine callVI (ar := 0) (As := []) (rest := []) C G hl.1 (ctX12_here _  hc) ⟨wd_997, wd_999, wd_26, wd_81, wd_1000⟩ (by decide +kernel) rfl ⟨rfl, rfl⟩ ⟨Nat.le_of_ble_eq_true rfl, Nat.le_of_ble_eq_true rfl⟩ (kd_lt kd_132 (by decide)) (ent_12 b cI cZ cO _ kd_132) rfl (Nat.le_of_ble_eq_true rfl) ⟨Nat.le_of_ble_eq_true rfl, Nat.le_of_ble_eq_true rfl⟩ dX12_takeNumber_1 rfl (fun H locs G => ?_)
  refine lv_i2l hx hb dX12_takeNumber_4 rfl ?_
  refine m_ldc2 C wd_1017 dX12_takeNumber_5 ?_
  refine m_ldc2 C wd_1018 dX12_takeNumber_8 ?_
  obtain ⟨r_2, σ_2, hc, hs⟩ := biE hs
  refine callSI (ar := 3) (As := [.long r_1.toInt64, .long 48, .long 57]) (rest := []) C G hl.1 (ctX12_in _  hc) ⟨wd_988, wd_989, wd_81, wd_990⟩ (by decide +kernel) rfl ⟨rfl, rfl⟩ ⟨Nat.le_of_ble_eq_true rfl, Nat.le_of_ble_eq_true rfl⟩ (Nat.le_of_ble_eq_true rfl) ⟨Nat.le_of_ble_eq_true rfl, Nat.le_of_ble_eq_true rfl⟩ dX12_takeNumber_11 rfl (fun H locs G => ?_)
  refine lv_if_ne (tgt := 27) hx hb dX12_takeNumber_14 (by decide) (fun c_3 => ?_) (fun c_3 => ?_)
  · replace hs := ifF c_3 hs
    refine lv_aload_n hx hb dX12_takeNumber_27 rfl (lv_at hl 0 rfl) ?_
    refine gf_X12_89 C G kd_132 dX12_takeNumber_28 ?_
    refine topI hs (fun x3_4 hs => ?_)
    refine lv_istore_n (lv' := [(3, .int x3_4), (0, .ref (b + 132)), (1, .int x1), (2, .int x2)]) hx hb dX12_takeNumber_31 rfl hl (by decide) rfl (fun ls hl => ?_)
    refine lv_aload_n hx hb dX12_takeNumber_32 rfl (lv_at hl 1 rfl) ?_
    refine lv_iconst (v := 0) hx hb dX12_takeNumber_33 (by decide) ?_
    refine pf_X12_104 C G kd_132 hs dX12_takeNumber_34 (fun σ_5 H locs hs G => ?_)
    refine wX12_takeNumber_37 C (fun σ_14 x1_14 x2_14 x3_14 H locs ls hs G hl => ?_) FU _ _ _ _ _ _ _ hs G (lv_sub hl [1, 2, 3, 0] rfl)
    exact wX12_takeNumber_124 C   hs G (lv_sub hl [0, 1, 2, 3] rfl)
  · replace hs := ifT c_3 hs
    refine lv_aload_n hx hb dX12_takeNumber_17 rfl (lv_at hl 0 rfl) ?_
    refine lv_iconst (v := 1) hx hb dX12_takeNumber_18 (by decide) ?_
    refine lv_aload_n hx hb dX12_takeNumber_19 rfl (lv_at hl 0 rfl) ?_
    refine gf_X12_89 C G kd_132 dX12_takeNumber_20 ?_
    obtain ⟨r_19, σ_19, hc, hs⟩ := biE hs
    refine callVI (ar := 2) (As := [.int 1, .int (σ_2 132 12)]) (rest := []) C G hl.1 (ctX12_fails _  hc) ⟨wd_1005, wd_1007, wd_28, wd_81, wd_1008⟩ (by decide +kernel) rfl ⟨rfl, rfl⟩ ⟨Nat.le_of_ble_eq_true rfl, Nat.le_of_ble_eq_true rfl⟩ (kd_lt kd_132 (by decide)) (ent_12 b cI cZ cO _ kd_132) rfl (Nat.le_of_ble_eq_true rfl) ⟨Nat.le_of_ble_eq_true rfl, Nat.le_of_ble_eq_true rfl⟩ dX12_takeNumber_23 rfl (fun H locs G => ?_)
    exact retI C G hs dX12_takeNumber_26
-- X12_takeOracle
def rmX12_takeOracle : Room := { frames := 2, cells := 0, slots := 0, locals := 48 }
def fX12_takeOracle (σ : Sg) : Option (Int32 × Sg) :=
  bi (fX12_takeNumber σ 1 20) (fun r_1 σ_1 => (if r_1 ≤ 0 then lt (st σ_1 132 14 (σ_1 132 13)) (fun σ_3 => bi (fX12_takeNumber σ_3 1 9) (fun r_4 σ_4 => lt (st σ_4 132 15 (σ_4 132 13)) (fun σ_5 => some (r_4, σ_5)))) else some (r_1, σ_1)))
set_option maxRecDepth 100000 in
set_option maxHeartbeats 4000000 in
theorem ctX12_takeOracle (l : Launch) {D : va_G} {cI cZ cO : ClassId} {b : Nat} {σ : Sg} {Rr : (Int32 × Sg)} (hs : fX12_takeOracle σ = some Rr) : MI l yX12_takeOracle cX12_takeOracle 2 (some .int) rmX12_takeOracle [.ref (b + 132)] b D cI cZ cO σ Rr := by
  unfold fX12_takeOracle at hs
  refine metI (by decide +kernel) (Nat.le_of_ble_eq_true rfl) (fun p e s m below meth c ls C G hl => ?_)
  have C : Cx p s m _ meth c cX12_takeOracle RX12 2 (some .int) D cI cZ cO := C
  have hx := C.1
  have hb := C.2.1
  have hl : lv_has ls 2 [(0, .ref (b + 132))] := hl
  refine lv_aload_n hx hb dX12_takeOracle_0 rfl (lv_at hl 0 rfl) ?_
  refine lv_iconst (v := 1) hx hb dX12_takeOracle_1 (by decide) ?_
  refine lv_bipush (v := 20) hx hb dX12_takeOracle_2 (by decide) ?_
  obtain ⟨r_1, σ_1, hc, hs⟩ := biE hs
  refine callVI (ar := 2) (As := [.int 1, .int 20]) (rest := []) C G hl.1 (ctX12_takeNumber _  hc) ⟨wd_1013, wd_1015, wd_30, wd_81, wd_1016⟩ (by decide +kernel) rfl ⟨rfl, rfl⟩ ⟨Nat.le_of_ble_eq_true rfl, Nat.le_of_ble_eq_true rfl⟩ (kd_lt kd_132 (by decide)) (ent_12 b cI cZ cO _ kd_132) rfl (Nat.le_of_ble_eq_true rfl) ⟨Nat.le_of_ble_eq_true rfl, Nat.le_of_ble_eq_true rfl⟩ dX12_takeOracle_4 rfl (fun H locs G => ?_)
  refine lv_istore_n (lv' := [(1, .int r_1), (0, .ref (b + 132))]) hx hb dX12_takeOracle_7 rfl hl (by decide) rfl (fun ls hl => ?_)
  refine lv_iload_n hx hb dX12_takeOracle_8 rfl (lv_at hl 0 rfl) ?_
  refine lv_if_le (tgt := 14) hx hb dX12_takeOracle_9 (by decide) (fun c_2 => ?_) (fun c_2 => ?_)
  · replace hs := ifT c_2 hs
    refine lv_aload_n hx hb dX12_takeOracle_14 rfl (lv_at hl 1 rfl) ?_
    refine lv_aload_n hx hb dX12_takeOracle_15 rfl (lv_at hl 1 rfl) ?_
    refine gf_X12_104 C G kd_132 dX12_takeOracle_16 ?_
    refine pf_X12_110 C G kd_132 hs dX12_takeOracle_19 (fun σ_3 H locs hs G => ?_)
    refine lv_aload_n hx hb dX12_takeOracle_22 rfl (lv_at hl 1 rfl) ?_
    refine lv_iconst (v := 1) hx hb dX12_takeOracle_23 (by decide) ?_
    refine lv_bipush (v := 9) hx hb dX12_takeOracle_24 (by decide) ?_
    obtain ⟨r_4, σ_4, hc, hs⟩ := biE hs
    refine callVI (ar := 2) (As := [.int 1, .int 9]) (rest := []) C G hl.1 (ctX12_takeNumber _  hc) ⟨wd_1013, wd_1015, wd_30, wd_81, wd_1016⟩ (by decide +kernel) rfl ⟨rfl, rfl⟩ ⟨Nat.le_of_ble_eq_true rfl, Nat.le_of_ble_eq_true rfl⟩ (kd_lt kd_132 (by decide)) (ent_12 b cI cZ cO _ kd_132) rfl (Nat.le_of_ble_eq_true rfl) ⟨Nat.le_of_ble_eq_true rfl, Nat.le_of_ble_eq_true rfl⟩ dX12_takeOracle_26 rfl (fun H locs G => ?_)
    refine lv_istore_n (lv' := [(1, .int r_4), (0, .ref (b + 132))]) hx hb dX12_takeOracle_29 rfl hl (by decide) rfl (fun ls hl => ?_)
    refine lv_aload_n hx hb dX12_takeOracle_30 rfl (lv_at hl 1 rfl) ?_
    refine lv_aload_n hx hb dX12_takeOracle_31 rfl (lv_at hl 1 rfl) ?_
    refine gf_X12_104 C G kd_132 dX12_takeOracle_32 ?_
    refine pf_X12_113 C G kd_132 hs dX12_takeOracle_35 (fun σ_5 H locs hs G => ?_)
    refine lv_iload_n hx hb dX12_takeOracle_38 rfl (lv_at hl 0 rfl) ?_
    exact retI C G hs dX12_takeOracle_39
  · replace hs := ifF c_2 hs
    refine lv_iload_n hx hb dX12_takeOracle_12 rfl (lv_at hl 0 rfl) ?_
    exact retI C G hs dX12_takeOracle_13
-- X12_takeVillage
def rmX12_takeVillage : Room := { frames := 2, cells := 0, slots := 0, locals := 48 }
def fX12_takeVillage_35 (σ : Sg) (x1 : Int32) (y0 : Int32) (y1 : Int32) : Option (Int32 × Sg) :=
  lt (st σ 132 16 (y1 + y0)) (fun σ_4 => some (x1, σ_4))
set_option maxRecDepth 100000 in
set_option maxHeartbeats 4000000 in
theorem wX12_takeVillage_35 {p : Program} {l : Launch} {e : Env} {s : State} {m : MethodId} {args : Array Value} {below : List Frame} {meth : Method} {c : Code} {D : va_G} {cI cZ cO : ClassId} {b : Nat} (C : Cx p s m args meth c cX12_takeVillage RX12 2 (some .int) D cI cZ cO) {Rr : (Int32 × Sg)} {σ : Sg} {x1 : Int32} {y0 : Int32} {y1 : Int32} {H : Heap} {locs : List Loc} {ls : Array Slot} (hs : fX12_takeVillage_35 σ x1 y0 y1 = some Rr) (G : Gd b D cI cZ cO σ s.heap H locs) (hl : lv_has ls 2 [(1, .int x1)]) : W p l e rmX12_takeVillage s m args below meth c H locs 0 0 (MQ below (QI b D cI cZ cO Rr) args s 0 0 (fun q => b ≤ q)) (F0 m 35 ls [.int y0, .int y1, .ref (b + 132)]) := by
  have hx := C.1
  have hb := C.2.1
  unfold fX12_takeVillage_35 at hs
  refine lv_iadd hx hb dX12_takeVillage_35 ?_
  refine pf_X12_116 C G kd_132 hs dX12_takeVillage_36 (fun σ_4 H locs hs G => ?_)
  refine lv_iload_n hx hb dX12_takeVillage_39 rfl (lv_at hl 0 rfl) ?_
  exact retI C G hs dX12_takeVillage_40
def fX12_takeVillage (σ : Sg) : Option (Int32 × Sg) :=
  bi (fX12_takeNumber σ 0 99) (fun r_1 σ_1 => (if inb (σ_1 132 16) 4 then lt (st σ_1 138 (σ_1 132 16).toNatClampNeg (σ_1 132 13)) (fun σ_2 => (if r_1 = 0 then fX12_takeVillage_35 σ_2 r_1 1 (σ_2 132 16) else fX12_takeVillage_35 σ_2 r_1 0 (σ_2 132 16))) else none))
set_option maxRecDepth 100000 in
set_option maxHeartbeats 4000000 in
theorem ctX12_takeVillage (l : Launch) {D : va_G} {cI cZ cO : ClassId} {b : Nat} {σ : Sg} {Rr : (Int32 × Sg)} (hs : fX12_takeVillage σ = some Rr) : MI l yX12_takeVillage cX12_takeVillage 2 (some .int) rmX12_takeVillage [.ref (b + 132)] b D cI cZ cO σ Rr := by
  unfold fX12_takeVillage at hs
  refine metI (by decide +kernel) (Nat.le_of_ble_eq_true rfl) (fun p e s m below meth c ls C G hl => ?_)
  have C : Cx p s m _ meth c cX12_takeVillage RX12 2 (some .int) D cI cZ cO := C
  have hx := C.1
  have hb := C.2.1
  have hl : lv_has ls 2 [(0, .ref (b + 132))] := hl
  refine lv_aload_n hx hb dX12_takeVillage_0 rfl (lv_at hl 0 rfl) ?_
  refine lv_iconst (v := 0) hx hb dX12_takeVillage_1 (by decide) ?_
  refine lv_bipush (v := 99) hx hb dX12_takeVillage_2 (by decide) ?_
  obtain ⟨r_1, σ_1, hc, hs⟩ := biE hs
  refine callVI (ar := 2) (As := [.int 0, .int 99]) (rest := []) C G hl.1 (ctX12_takeNumber _  hc) ⟨wd_1013, wd_1015, wd_30, wd_81, wd_1016⟩ (by decide +kernel) rfl ⟨rfl, rfl⟩ ⟨Nat.le_of_ble_eq_true rfl, Nat.le_of_ble_eq_true rfl⟩ (kd_lt kd_132 (by decide)) (ent_12 b cI cZ cO _ kd_132) rfl (Nat.le_of_ble_eq_true rfl) ⟨Nat.le_of_ble_eq_true rfl, Nat.le_of_ble_eq_true rfl⟩ dX12_takeVillage_4 rfl (fun H locs G => ?_)
  refine lv_istore_n (lv' := [(1, .int r_1), (0, .ref (b + 132))]) hx hb dX12_takeVillage_7 rfl hl (by decide) rfl (fun ls hl => ?_)
  refine lv_aload_n hx hb dX12_takeVillage_8 rfl (lv_at hl 1 rfl) ?_
  refine gf_X12_29 C G kd_132 (n' := 138) rfl dX12_takeVillage_9 ?_
  refine lv_aload_n hx hb dX12_takeVillage_12 rfl (lv_at hl 1 rfl) ?_
  refine gf_X12_116 C G kd_132 dX12_takeVillage_13 ?_
  refine lv_aload_n hx hb dX12_takeVillage_16 rfl (lv_at hl 1 rfl) ?_
  refine gf_X12_104 C G kd_132 dX12_takeVillage_17 ?_
  obtain ⟨g_2, hs⟩ := gdE hs
  refine m_iast C G kd_138 ln_138 g_2 hs dX12_takeVillage_20 (fun σ_2 H locs hs G => ?_)
  refine lv_aload_n hx hb dX12_takeVillage_21 rfl (lv_at hl 1 rfl) ?_
  refine lv_dup hx hb dX12_takeVillage_22 rfl ?_
  refine gf_X12_116 C G kd_132 dX12_takeVillage_23 ?_
  refine lv_iload_n hx hb dX12_takeVillage_26 rfl (lv_at hl 0 rfl) ?_
  refine lv_if_ne (tgt := 34) hx hb dX12_takeVillage_27 (by decide) (fun c_3 => ?_) (fun c_3 => ?_)
  · replace hs := ifF c_3 hs
    refine lv_iconst (v := 0) hx hb dX12_takeVillage_34 (by decide) ?_
    exact wX12_takeVillage_35 C   hs G (lv_sub hl [0] rfl)
  · replace hs := ifT c_3 hs
    refine lv_iconst (v := 1) hx hb dX12_takeVillage_30 (by decide) ?_
    refine lv_goto (tgt := 35) hx hb dX12_takeVillage_31 (by decide) ?_
    exact wX12_takeVillage_35 C   hs G (lv_sub hl [0] rfl)
