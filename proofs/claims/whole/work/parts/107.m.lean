-- X8_append
def rmX8_append : Room := { frames := 0, cells := 0, slots := 0, locals := 0 }
def fX8_append (σ : Sg) (x1 : Int32) : Option Sg :=
  (if (σ 1 1) < 240 then (if inb (σ 1 1) 240 then lt (st σ 2 (σ 1 1).toNatClampNeg x1) (fun σ_2 => lt (st σ_2 1 1 ((σ_2 1 1) + 1)) (fun σ_3 => some σ_3)) else none) else some σ)
set_option maxRecDepth 100000 in
set_option maxHeartbeats 4000000 in
theorem ctX8_append (l : Launch) {D : va_G} {cI cZ cO : ClassId} {b : Nat} {σ : Sg} {x1 : Int32} {Rr : Sg} (hs : fX8_append σ x1 = some Rr) : MV l yX8_append cX8_append 2 rmX8_append [.ref (b + 1), .int x1] b D cI cZ cO σ Rr := by
  unfold fX8_append at hs
  refine metV (by decide +kernel) (Nat.le_of_ble_eq_true rfl) (fun p e s m below meth c ls C G hl => ?_)
  have C : Cx p s m _ meth c cX8_append RX8 2 none D cI cZ cO := C
  have hx := C.1
  have hb := C.2.1
  have hl : lv_has ls 2 [(0, .ref (b + 1)), (1, .int x1)] := hl
  refine lv_aload_n hx hb dX8_append_0 rfl (lv_at hl 0 rfl) ?_
  refine gf_X8_19 C G kd_1 dX8_append_1 ?_
  refine lv_sipush (v := 240) hx hb dX8_append_4 (by decide) ?_
  refine lv_icmp_lt (tgt := 11) hx hb dX8_append_7 (by decide) (fun c_1 => ?_) (fun c_1 => ?_)
  · replace hs := ifT c_1 hs
    refine lv_aload_n hx hb dX8_append_11 rfl (lv_at hl 0 rfl) ?_
    refine gf_X8_9 C G kd_1 (n' := 2) rfl dX8_append_12 ?_
    refine lv_aload_n hx hb dX8_append_15 rfl (lv_at hl 0 rfl) ?_
    refine gf_X8_19 C G kd_1 dX8_append_16 ?_
    refine lv_iload_n hx hb dX8_append_19 rfl (lv_at hl 1 rfl) ?_
    obtain ⟨g_2, hs⟩ := gdE hs
    refine m_iast C G kd_2 ln_2 g_2 hs dX8_append_20 (fun σ_2 H locs hs G => ?_)
    refine lv_aload_n hx hb dX8_append_21 rfl (lv_at hl 0 rfl) ?_
    refine lv_dup hx hb dX8_append_22 rfl ?_
    refine gf_X8_19 C G kd_1 dX8_append_23 ?_
    refine lv_iconst (v := 1) hx hb dX8_append_26 (by decide) ?_
    refine lv_iadd hx hb dX8_append_27 ?_
    refine pf_X8_19 C G kd_1 hs dX8_append_28 (fun σ_3 H locs hs G => ?_)
    exact retV C G hs dX8_append_31
  · replace hs := ifF c_1 hs
    exact retV C G hs dX8_append_10
-- X8_letter
def rmX8_letter : Room := { frames := 0, cells := 0, slots := 0, locals := 0 }
def fX8_letter_40 (σ : Sg) : Option (Int32 × Sg) :=
  some ((-1), σ)
set_option maxRecDepth 100000 in
set_option maxHeartbeats 4000000 in
theorem wX8_letter_40 {p : Program} {l : Launch} {e : Env} {s : State} {m : MethodId} {args : Array Value} {below : List Frame} {meth : Method} {c : Code} {D : va_G} {cI cZ cO : ClassId} {b : Nat} (C : Cx p s m args meth c cX8_letter RX8 1 (some .int) D cI cZ cO) {Rr : (Int32 × Sg)} {σ : Sg} {H : Heap} {locs : List Loc} {ls : Array Slot} (hs : fX8_letter_40 σ = some Rr) (G : Gd b D cI cZ cO σ s.heap H locs) (hl : lv_has ls 1 []) : W p l e rmX8_letter s m args below meth c H locs 0 0 (MQ below (QI b D cI cZ cO Rr) args s 0 0 (fun q => b ≤ q)) (F0 m 40 ls []) := by
  have hx := C.1
  have hb := C.2.1
  unfold fX8_letter_40 at hs
  refine lv_iconst (v := (-1)) hx hb dX8_letter_40 (by decide) ?_
  exact retI C G hs dX8_letter_41
def fX8_letter (σ : Sg) : Option (Int32 × Sg) :=
  (if (σ 1 4) < 0 then fX8_letter_40 σ else (if (σ 1 1) ≤ (σ 1 4) then fX8_letter_40 σ else (if 240 ≤ (σ 1 4) then fX8_letter_40 σ else (if inb (σ 1 4) 240 then some ((σ 2 (σ 1 4).toNatClampNeg), σ) else none))))
set_option maxRecDepth 100000 in
set_option maxHeartbeats 4000000 in
theorem ctX8_letter (l : Launch) {D : va_G} {cI cZ cO : ClassId} {b : Nat} {σ : Sg} {Rr : (Int32 × Sg)} (hs : fX8_letter σ = some Rr) : MI l yX8_letter cX8_letter 1 (some .int) rmX8_letter [.ref (b + 1)] b D cI cZ cO σ Rr := by
  unfold fX8_letter at hs
  refine metI (by decide +kernel) (Nat.le_of_ble_eq_true rfl) (fun p e s m below meth c ls C G hl => ?_)
  have C : Cx p s m _ meth c cX8_letter RX8 1 (some .int) D cI cZ cO := C
  have hx := C.1
  have hb := C.2.1
  have hl : lv_has ls 1 [(0, .ref (b + 1))] := hl
  refine lv_aload_n hx hb dX8_letter_0 rfl (lv_at hl 0 rfl) ?_
  refine gf_X8_30 C G kd_1 dX8_letter_1 ?_
  refine lv_if_lt (tgt := 40) hx hb dX8_letter_4 (by decide) (fun c_1 => ?_) (fun c_1 => ?_)
  · replace hs := ifT c_1 hs
    exact wX8_letter_40 C   hs G (lv_sub hl [] rfl)
  · replace hs := ifF c_1 hs
    refine lv_aload_n hx hb dX8_letter_7 rfl (lv_at hl 0 rfl) ?_
    refine gf_X8_30 C G kd_1 dX8_letter_8 ?_
    refine lv_aload_n hx hb dX8_letter_11 rfl (lv_at hl 0 rfl) ?_
    refine gf_X8_19 C G kd_1 dX8_letter_12 ?_
    refine lv_icmp_ge (tgt := 40) hx hb dX8_letter_15 (by decide) (fun c_2 => ?_) (fun c_2 => ?_)
    · replace hs := ifT c_2 hs
      exact wX8_letter_40 C   hs G (lv_sub hl [] rfl)
    · replace hs := ifF c_2 hs
      refine lv_aload_n hx hb dX8_letter_18 rfl (lv_at hl 0 rfl) ?_
      refine gf_X8_30 C G kd_1 dX8_letter_19 ?_
      refine lv_sipush (v := 240) hx hb dX8_letter_22 (by decide) ?_
      refine lv_icmp_ge (tgt := 40) hx hb dX8_letter_25 (by decide) (fun c_3 => ?_) (fun c_3 => ?_)
      · replace hs := ifT c_3 hs
        exact wX8_letter_40 C   hs G (lv_sub hl [] rfl)
      · replace hs := ifF c_3 hs
        refine lv_aload_n hx hb dX8_letter_28 rfl (lv_at hl 0 rfl) ?_
        refine gf_X8_9 C G kd_1 (n' := 2) rfl dX8_letter_29 ?_
        refine lv_aload_n hx hb dX8_letter_32 rfl (lv_at hl 0 rfl) ?_
        refine gf_X8_30 C G kd_1 dX8_letter_33 ?_
        obtain ⟨g_4, hs⟩ := gdE hs
        refine m_iald C G kd_2 ln_2 g_4 dX8_letter_36 ?_
        refine lv_goto (tgt := 41) hx hb dX8_letter_37 (by decide) ?_
        exact retI C G hs dX8_letter_41
-- X8_skipBlanks
def rmX8_skipBlanks : Room := { frames := 1, cells := 0, slots := 0, locals := 20 }
def fX8_skipBlanks_8b (kh : Sg → Option Sg) (kx : Sg → Option Sg) (σ : Sg) : Option Sg :=
  (if (σ 1 1) ≤ (σ 1 4) then kx σ else bi (fX8_letter σ) (fun r_3 σ_3 => (if r_3 = 32 then lt (st σ_3 1 4 ((σ_3 1 4) + 1)) (fun σ_5 => kh σ_5) else kx σ_3)))
set_option maxRecDepth 100000 in
set_option maxHeartbeats 4000000 in
theorem wX8_skipBlanks_8b {p : Program} {l : Launch} {e : Env} {s : State} {m : MethodId} {args : Array Value} {below : List Frame} {meth : Method} {c : Code} {D : va_G} {cI cZ cO : ClassId} {b : Nat} (C : Cx p s m args meth c cX8_skipBlanks RX8 1 none D cI cZ cO) {Rr : Sg} {kh : Sg → Option Sg} {kx : Sg → Option Sg} (hh : ∀ (σ : Sg) (H : Heap) (locs : List Loc) (ls : Array Slot), kh σ = some Rr → Gd b D cI cZ cO σ s.heap H locs → lv_has ls 1 [(0, .ref (b + 1))] → W p l e rmX8_skipBlanks s m args below meth c H locs 0 0 (MQ below (QV b D cI cZ cO Rr) args s 0 0 (fun q => b ≤ q)) (F0 m 8 ls [])) (hxx : ∀ (σ : Sg) (H : Heap) (locs : List Loc) (ls : Array Slot), kx σ = some Rr → Gd b D cI cZ cO σ s.heap H locs → lv_has ls 1 [] → W p l e rmX8_skipBlanks s m args below meth c H locs 0 0 (MQ below (QV b D cI cZ cO Rr) args s 0 0 (fun q => b ≤ q)) (F0 m 41 ls [])) {σ : Sg} {H : Heap} {locs : List Loc} {ls : Array Slot} (hs : fX8_skipBlanks_8b kh kx σ = some Rr) (G : Gd b D cI cZ cO σ s.heap H locs) (hl : lv_has ls 1 [(0, .ref (b + 1))]) : W p l e rmX8_skipBlanks s m args below meth c H locs 0 0 (MQ below (QV b D cI cZ cO Rr) args s 0 0 (fun q => b ≤ q)) (F0 m 8 ls []) := by
  have hx := C.1
  have hb := C.2.1
  unfold fX8_skipBlanks_8b at hs
  refine lv_aload_n hx hb dX8_skipBlanks_8 rfl (lv_at hl 0 rfl) ?_
  refine gf_X8_30 C G kd_1 dX8_skipBlanks_9 ?_
  refine lv_aload_n hx hb dX8_skipBlanks_12 rfl (lv_at hl 0 rfl) ?_
  refine gf_X8_19 C G kd_1 dX8_skipBlanks_13 ?_
  refine lv_icmp_ge (tgt := 41) hx hb dX8_skipBlanks_16 (by decide) (fun c_2 => ?_) (fun c_2 => ?_)
  · replace hs := ifT c_2 hs
    exact hxx _ _ _ _ hs G (lv_sub hl [] rfl)
  · replace hs := ifF c_2 hs
    refine lv_aload_n hx hb dX8_skipBlanks_19 rfl (lv_at hl 0 rfl) ?_
    obtain ⟨r_3, σ_3, hc, hs⟩ := biE hs
    refine callVI (ar := 0) (As := []) (rest := []) C G hl.1 (ctX8_letter _  hc) ⟨wd_447, wd_449, wd_1, wd_70, wd_450⟩ (by decide +kernel) rfl ⟨rfl, rfl⟩ ⟨Nat.le_of_ble_eq_true rfl, Nat.le_of_ble_eq_true rfl⟩ (kd_lt kd_1 (by decide)) (ent_8 b cI cZ cO _ kd_1) rfl (Nat.le_of_ble_eq_true rfl) ⟨Nat.le_of_ble_eq_true rfl, Nat.le_of_ble_eq_true rfl⟩ dX8_skipBlanks_20 rfl (fun H locs G => ?_)
    refine lv_bipush (v := 32) hx hb dX8_skipBlanks_23 (by decide) ?_
    refine lv_icmp_ne (tgt := 41) hx hb dX8_skipBlanks_25 (by decide) (fun c_4 => ?_) (fun c_4 => ?_)
    · replace hs := ifF c_4 hs
      exact hxx _ _ _ _ hs G (lv_sub hl [] rfl)
    · replace hs := ifT c_4 hs
      refine lv_aload_n hx hb dX8_skipBlanks_28 rfl (lv_at hl 0 rfl) ?_
      refine lv_dup hx hb dX8_skipBlanks_29 rfl ?_
      refine gf_X8_30 C G kd_1 dX8_skipBlanks_30 ?_
      refine lv_iconst (v := 1) hx hb dX8_skipBlanks_33 (by decide) ?_
      refine lv_iadd hx hb dX8_skipBlanks_34 ?_
      refine pf_X8_30 C G kd_1 hs dX8_skipBlanks_35 (fun σ_5 H locs hs G => ?_)
      refine lv_goto (tgt := 8) hx hb dX8_skipBlanks_38 (by decide) ?_
      exact hh _ _ _ _ hs G (lv_sub hl [0] rfl)
def fX8_skipBlanks_8 : Nat → (Sg → Option Sg) → Sg → Option Sg
  | 0, _, _ => none
  | fu + 1, kx, σ => fX8_skipBlanks_8b (fX8_skipBlanks_8 fu kx) kx σ 
theorem fX8_skipBlanks_8_s (fu : Nat) (kx : Sg → Option Sg) (σ : Sg) : fX8_skipBlanks_8 (fu + 1) kx σ  = fX8_skipBlanks_8b (fX8_skipBlanks_8 fu kx) kx σ  := by rw [fX8_skipBlanks_8]
theorem wX8_skipBlanks_8 {p : Program} {l : Launch} {e : Env} {s : State} {m : MethodId} {args : Array Value} {below : List Frame} {meth : Method} {c : Code} {D : va_G} {cI cZ cO : ClassId} {b : Nat} (C : Cx p s m args meth c cX8_skipBlanks RX8 1 none D cI cZ cO) {Rr : Sg} {kx : Sg → Option Sg} (hxx : ∀ (σ : Sg) (H : Heap) (locs : List Loc) (ls : Array Slot), kx σ = some Rr → Gd b D cI cZ cO σ s.heap H locs → lv_has ls 1 [] → W p l e rmX8_skipBlanks s m args below meth c H locs 0 0 (MQ below (QV b D cI cZ cO Rr) args s 0 0 (fun q => b ≤ q)) (F0 m 41 ls [])) : ∀ (fu : Nat) (σ : Sg) (H : Heap) (locs : List Loc) (ls : Array Slot), fX8_skipBlanks_8 fu kx σ = some Rr → Gd b D cI cZ cO σ s.heap H locs → lv_has ls 1 [(0, .ref (b + 1))] → W p l e rmX8_skipBlanks s m args below meth c H locs 0 0 (MQ below (QV b D cI cZ cO Rr) args s 0 0 (fun q => b ≤ q)) (F0 m 8 ls []) := by
  intro fu
  induction fu with
  | zero => intro σ H locs ls hs; cases hs
  | succ fu ih =>
    intro σ H locs ls hs G hl
    exact wX8_skipBlanks_8b C (fun σ H locs ls hs G hl => ih σ H locs ls hs G hl) hxx hs G hl
def fX8_skipBlanks (σ : Sg) : Option Sg :=
  (if (σ 1 2) = 0 then fX8_skipBlanks_8 FU (fun σ_6 => some σ_6) σ else some σ)
set_option maxRecDepth 100000 in
set_option maxHeartbeats 4000000 in
theorem ctX8_skipBlanks (l : Launch) {D : va_G} {cI cZ cO : ClassId} {b : Nat} {σ : Sg} {Rr : Sg} (hs : fX8_skipBlanks σ = some Rr) : MV l yX8_skipBlanks cX8_skipBlanks 1 rmX8_skipBlanks [.ref (b + 1)] b D cI cZ cO σ Rr := by
  unfold fX8_skipBlanks at hs
  refine metV (by decide +kernel) (Nat.le_of_ble_eq_true rfl) (fun p e s m below meth c ls C G hl => ?_)
  have C : Cx p s m _ meth c cX8_skipBlanks RX8 1 none D cI cZ cO := C
  have hx := C.1
  have hb := C.2.1
  have hl : lv_has ls 1 [(0, .ref (b + 1))] := hl
  refine lv_aload_n hx hb dX8_skipBlanks_0 rfl (lv_at hl 0 rfl) ?_
  refine gf_X8_27 C G kd_1 dX8_skipBlanks_1 ?_
  refine lv_if_eq (tgt := 8) hx hb dX8_skipBlanks_4 (by decide) (fun c_1 => ?_) (fun c_1 => ?_)
  · replace hs := ifT c_1 hs
    refine wX8_skipBlanks_8 C (fun σ_6 H locs ls hs G hl => ?_) FU _ _ _ _ hs G (lv_sub hl [0] rfl)
    exact retV C G hs dX8_skipBlanks_41
  · replace hs := ifF c_1 hs
    exact retV C G hs dX8_skipBlanks_7
-- X8_faultOfWord
def rmX8_faultOfWord : Room := { frames := 0, cells := 0, slots := 0, locals := 0 }
def fX8_faultOfWord (n1 : Nat) (σ : Sg) (x0 : Int32) : Option (Int32 × Sg) :=
  (if (σ n1 0) = 0 then (if x0 = 111 then some (0, σ) else some (1, σ)) else (if x0 = 111 then some (3, σ) else (if x0 = 118 then (if 4 ≤ (σ n1 3) then some (3, σ) else some (0, σ)) else (if x0 = 112 then (if 7 ≤ (σ n1 4) then some (3, σ) else some (0, σ)) else some (1, σ)))))
set_option maxRecDepth 100000 in
set_option maxHeartbeats 4000000 in
theorem ctX8_faultOfWord (l : Launch) {n1 : Nat} (hk1 : kd n1 = 4) {D : va_G} {cI cZ cO : ClassId} {b : Nat} {σ : Sg} {x0 : Int32} {Rr : (Int32 × Sg)} (hs : fX8_faultOfWord n1 σ x0 = some Rr) : MI l yX8_faultOfWord cX8_faultOfWord 2 (some .int) rmX8_faultOfWord [.int x0, .ref (b + n1)] b D cI cZ cO σ Rr := by
  unfold fX8_faultOfWord at hs
  refine metI (by decide +kernel) (Nat.le_of_ble_eq_true rfl) (fun p e s m below meth c ls C G hl => ?_)
  have C : Cx p s m _ meth c cX8_faultOfWord RX8 2 (some .int) D cI cZ cO := C
  have hx := C.1
  have hb := C.2.1
  have hl : lv_has ls 2 [(0, .int x0), (1, .ref (b + n1))] := hl
  refine lv_aload_n hx hb dX8_faultOfWord_0 rfl (lv_at hl 1 rfl) ?_
  refine gf_X8_64 C G hk1 dX8_faultOfWord_1 ?_
  refine lv_if_ne (tgt := 19) hx hb dX8_faultOfWord_4 (by decide) (fun c_1 => ?_) (fun c_1 => ?_)
  · replace hs := ifF c_1 hs
    refine lv_iload_n hx hb dX8_faultOfWord_19 rfl (lv_at hl 0 rfl) ?_
    refine lv_bipush (v := 111) hx hb dX8_faultOfWord_20 (by decide) ?_
    refine lv_icmp_ne (tgt := 27) hx hb dX8_faultOfWord_22 (by decide) (fun c_2 => ?_) (fun c_2 => ?_)
    · replace hs := ifF c_2 hs
      refine lv_iload_n hx hb dX8_faultOfWord_27 rfl (lv_at hl 0 rfl) ?_
      refine lv_bipush (v := 118) hx hb dX8_faultOfWord_28 (by decide) ?_
      refine lv_icmp_ne (tgt := 47) hx hb dX8_faultOfWord_30 (by decide) (fun c_3 => ?_) (fun c_3 => ?_)
      · replace hs := ifF c_3 hs
        refine lv_iload_n hx hb dX8_faultOfWord_47 rfl (lv_at hl 0 rfl) ?_
        refine lv_bipush (v := 112) hx hb dX8_faultOfWord_48 (by decide) ?_
        refine lv_icmp_ne (tgt := 68) hx hb dX8_faultOfWord_50 (by decide) (fun c_4 => ?_) (fun c_4 => ?_)
        · replace hs := ifF c_4 hs
          refine lv_iconst (v := 1) hx hb dX8_faultOfWord_68 (by decide) ?_
          exact retI C G hs dX8_faultOfWord_69
        · replace hs := ifT c_4 hs
          refine lv_aload_n hx hb dX8_faultOfWord_53 rfl (lv_at hl 1 rfl) ?_
          refine gf_X8_71 C G hk1 dX8_faultOfWord_54 ?_
          refine lv_bipush (v := 7) hx hb dX8_faultOfWord_57 (by decide) ?_
          refine lv_icmp_ge (tgt := 66) hx hb dX8_faultOfWord_59 (by decide) (fun c_5 => ?_) (fun c_5 => ?_)
          · replace hs := ifT c_5 hs
            refine lv_iconst (v := 3) hx hb dX8_faultOfWord_66 (by decide) ?_
            exact retI C G hs dX8_faultOfWord_67
          · replace hs := ifF c_5 hs
            refine lv_iconst (v := 0) hx hb dX8_faultOfWord_62 (by decide) ?_
            refine lv_goto (tgt := 67) hx hb dX8_faultOfWord_63 (by decide) ?_
            exact retI C G hs dX8_faultOfWord_67
      · replace hs := ifT c_3 hs
        refine lv_aload_n hx hb dX8_faultOfWord_33 rfl (lv_at hl 1 rfl) ?_
        refine gf_X8_68 C G hk1 dX8_faultOfWord_34 ?_
        refine lv_iconst (v := 4) hx hb dX8_faultOfWord_37 (by decide) ?_
        refine lv_icmp_ge (tgt := 45) hx hb dX8_faultOfWord_38 (by decide) (fun c_6 => ?_) (fun c_6 => ?_)
        · replace hs := ifT c_6 hs
          refine lv_iconst (v := 3) hx hb dX8_faultOfWord_45 (by decide) ?_
          exact retI C G hs dX8_faultOfWord_46
        · replace hs := ifF c_6 hs
          refine lv_iconst (v := 0) hx hb dX8_faultOfWord_41 (by decide) ?_
          refine lv_goto (tgt := 46) hx hb dX8_faultOfWord_42 (by decide) ?_
          exact retI C G hs dX8_faultOfWord_46
    · replace hs := ifT c_2 hs
      refine lv_iconst (v := 3) hx hb dX8_faultOfWord_25 (by decide) ?_
      exact retI C G hs dX8_faultOfWord_26
  · replace hs := ifT c_1 hs
    refine lv_iload_n hx hb dX8_faultOfWord_7 rfl (lv_at hl 0 rfl) ?_
    refine lv_bipush (v := 111) hx hb dX8_faultOfWord_8 (by decide) ?_
    refine lv_icmp_ne (tgt := 17) hx hb dX8_faultOfWord_10 (by decide) (fun c_7 => ?_) (fun c_7 => ?_)
    · replace hs := ifF c_7 hs
      refine lv_iconst (v := 1) hx hb dX8_faultOfWord_17 (by decide) ?_
      exact retI C G hs dX8_faultOfWord_18
    · replace hs := ifT c_7 hs
      refine lv_iconst (v := 0) hx hb dX8_faultOfWord_13 (by decide) ?_
      refine lv_goto (tgt := 18) hx hb dX8_faultOfWord_14 (by decide) ?_
      exact retI C G hs dX8_faultOfWord_18
-- X8_fail
def rmX8_fail : Room := { frames := 0, cells := 0, slots := 0, locals := 0 }
def fX8_fail (σ : Sg) (x1 : Int32) (x2 : Int32) : Option Sg :=
  (if (σ 1 2) = 0 then lt (st σ 1 2 x1) (fun σ_2 => lt (st σ_2 1 3 x2) (fun σ_3 => some σ_3)) else some σ)
set_option maxRecDepth 100000 in
set_option maxHeartbeats 4000000 in
theorem ctX8_fail (l : Launch) {D : va_G} {cI cZ cO : ClassId} {b : Nat} {σ : Sg} {x1 : Int32} {x2 : Int32} {Rr : Sg} (hs : fX8_fail σ x1 x2 = some Rr) : MV l yX8_fail cX8_fail 3 rmX8_fail [.ref (b + 1), .int x1, .int x2] b D cI cZ cO σ Rr := by
  unfold fX8_fail at hs
  refine metV (by decide +kernel) (Nat.le_of_ble_eq_true rfl) (fun p e s m below meth c ls C G hl => ?_)
  have C : Cx p s m _ meth c cX8_fail RX8 3 none D cI cZ cO := C
  have hx := C.1
  have hb := C.2.1
  have hl : lv_has ls 3 [(0, .ref (b + 1)), (1, .int x1), (2, .int x2)] := hl
  refine lv_aload_n hx hb dX8_fail_0 rfl (lv_at hl 0 rfl) ?_
  refine gf_X8_27 C G kd_1 dX8_fail_1 ?_
  refine lv_if_eq (tgt := 8) hx hb dX8_fail_4 (by decide) (fun c_1 => ?_) (fun c_1 => ?_)
  · replace hs := ifT c_1 hs
    refine lv_aload_n hx hb dX8_fail_8 rfl (lv_at hl 0 rfl) ?_
    refine lv_iload_n hx hb dX8_fail_9 rfl (lv_at hl 1 rfl) ?_
    refine pf_X8_27 C G kd_1 hs dX8_fail_10 (fun σ_2 H locs hs G => ?_)
    refine lv_aload_n hx hb dX8_fail_13 rfl (lv_at hl 0 rfl) ?_
    refine lv_iload_n hx hb dX8_fail_14 rfl (lv_at hl 2 rfl) ?_
    refine pf_X8_15 C G kd_1 hs dX8_fail_15 (fun σ_3 H locs hs G => ?_)
    exact retV C G hs dX8_fail_18
  · replace hs := ifF c_1 hs
    exact retV C G hs dX8_fail_7
-- X8_isFigure
def rmX8_isFigure : Room := { frames := 0, cells := 0, slots := 0, locals := 0 }
def fX8_isFigure_16 (σ : Sg) : Option (Int32 × Sg) :=
  some (0, σ)
set_option maxRecDepth 100000 in
set_option maxHeartbeats 4000000 in
theorem wX8_isFigure_16 {p : Program} {l : Launch} {e : Env} {s : State} {m : MethodId} {args : Array Value} {below : List Frame} {meth : Method} {c : Code} {D : va_G} {cI cZ cO : ClassId} {b : Nat} (C : Cx p s m args meth c cX8_isFigure RX8 1 (some .boolean) D cI cZ cO) {Rr : (Int32 × Sg)} {σ : Sg} {H : Heap} {locs : List Loc} {ls : Array Slot} (hs : fX8_isFigure_16 σ = some Rr) (G : Gd b D cI cZ cO σ s.heap H locs) (hl : lv_has ls 1 []) : W p l e rmX8_isFigure s m args below meth c H locs 0 0 (MQ below (QI b D cI cZ cO Rr) args s 0 0 (fun q => b ≤ q)) (F0 m 16 ls []) := by
  have hx := C.1
  have hb := C.2.1
  unfold fX8_isFigure_16 at hs
  refine lv_iconst (v := 0) hx hb dX8_isFigure_16 (by decide) ?_
  exact retZ C G (by decide) hs dX8_isFigure_17
def fX8_isFigure (σ : Sg) (x0 : Int32) : Option (Int32 × Sg) :=
  (if x0 < 48 then fX8_isFigure_16 σ else (if 57 < x0 then fX8_isFigure_16 σ else some (1, σ)))
set_option maxRecDepth 100000 in
set_option maxHeartbeats 4000000 in
theorem ctX8_isFigure (l : Launch) {D : va_G} {cI cZ cO : ClassId} {b : Nat} {σ : Sg} {x0 : Int32} {Rr : (Int32 × Sg)} (hs : fX8_isFigure σ x0 = some Rr) : MI l yX8_isFigure cX8_isFigure 1 (some .boolean) rmX8_isFigure [.int x0] b D cI cZ cO σ Rr := by
  unfold fX8_isFigure at hs
  refine metI (by decide +kernel) (Nat.le_of_ble_eq_true rfl) (fun p e s m below meth c ls C G hl => ?_)
  have C : Cx p s m _ meth c cX8_isFigure RX8 1 (some .boolean) D cI cZ cO := C
  have hx := C.1
  have hb := C.2.1
  have hl : lv_has ls 1 [(0, .int x0)] := hl
  refine lv_iload_n hx hb dX8_isFigure_0 rfl (lv_at hl 0 rfl) ?_
  refine lv_bipush (v := 48) hx hb dX8_isFigure_1 (by decide) ?_
  refine lv_icmp_lt (tgt := 16) hx hb dX8_isFigure_3 (by decide) (fun c_1 => ?_) (fun c_1 => ?_)
  · replace hs := ifT c_1 hs
    exact wX8_isFigure_16 C   hs G (lv_sub hl [] rfl)
  · replace hs := ifF c_1 hs
    refine lv_iload_n hx hb dX8_isFigure_6 rfl (lv_at hl 0 rfl) ?_
    refine lv_bipush (v := 57) hx hb dX8_isFigure_7 (by decide) ?_
    refine lv_icmp_gt (tgt := 16) hx hb dX8_isFigure_9 (by decide) (fun c_2 => ?_) (fun c_2 => ?_)
    · replace hs := ifT c_2 hs
      exact wX8_isFigure_16 C   hs G (lv_sub hl [] rfl)
    · replace hs := ifF c_2 hs
      refine lv_iconst (v := 1) hx hb dX8_isFigure_12 (by decide) ?_
      refine lv_goto (tgt := 17) hx hb dX8_isFigure_13 (by decide) ?_
      exact retZ C G (by decide) hs dX8_isFigure_17
-- X8_readNumber
def rmX8_readNumber : Room := { frames := 2, cells := 0, slots := 0, locals := 40 }
def fX8_readNumber_70 (kh : Sg → Int32 → Int32 → Int32 → Option (Int32 × Sg)) (kx : Sg → Int32 → Int32 → Int32 → Option (Int32 × Sg)) (σ : Sg) (x1 : Int32) (x2 : Int32) (x3 : Int32) : Option (Int32 × Sg) :=
  lt (st σ 1 4 ((σ 1 4) + 1)) (fun σ_9 => kh σ_9 x1 x2 x3)
set_option maxRecDepth 100000 in
set_option maxHeartbeats 4000000 in
theorem wX8_readNumber_70 {p : Program} {l : Launch} {e : Env} {s : State} {m : MethodId} {args : Array Value} {below : List Frame} {meth : Method} {c : Code} {D : va_G} {cI cZ cO : ClassId} {b : Nat} (C : Cx p s m args meth c cX8_readNumber RX8 5 (some .int) D cI cZ cO) {Rr : (Int32 × Sg)} {kh : Sg → Int32 → Int32 → Int32 → Option (Int32 × Sg)} {kx : Sg → Int32 → Int32 → Int32 → Option (Int32 × Sg)} (hh : ∀ (σ : Sg) (x1 : Int32) (x2 : Int32) (x3 : Int32) (H : Heap) (locs : List Loc) (ls : Array Slot), kh σ x1 x2 x3 = some Rr → Gd b D cI cZ cO σ s.heap H locs → lv_has ls 5 [(0, .ref (b + 1)), (1, .int x1), (2, .int x2), (3, .int x3)] → W p l e rmX8_readNumber s m args below meth c H locs 0 0 (MQ below (QI b D cI cZ cO Rr) args s 0 0 (fun q => b ≤ q)) (F0 m 23 ls [])) (hxx : ∀ (σ : Sg) (x1 : Int32) (x2 : Int32) (x3 : Int32) (H : Heap) (locs : List Loc) (ls : Array Slot), kx σ x1 x2 x3 = some Rr → Gd b D cI cZ cO σ s.heap H locs → lv_has ls 5 [(0, .ref (b + 1)), (1, .int x1), (2, .int x2), (3, .int x3)] → W p l e rmX8_readNumber s m args below meth c H locs 0 0 (MQ below (QI b D cI cZ cO Rr) args s 0 0 (fun q => b ≤ q)) (F0 m 83 ls [])) {σ : Sg} {x1 : Int32} {x2 : Int32} {x3 : Int32} {H : Heap} {locs : List Loc} {ls : Array Slot} (hs : fX8_readNumber_70 kh kx σ x1 x2 x3 = some Rr) (G : Gd b D cI cZ cO σ s.heap H locs) (hl : lv_has ls 5 [(0, .ref (b + 1)), (1, .int x1), (2, .int x2), (3, .int x3)]) : W p l e rmX8_readNumber s m args below meth c H locs 0 0 (MQ below (QI b D cI cZ cO Rr) args s 0 0 (fun q => b ≤ q)) (F0 m 70 ls []) := by
  have hx := C.1
  have hb := C.2.1
  unfold fX8_readNumber_70 at hs
  refine lv_aload_n hx hb dX8_readNumber_70 rfl (lv_at hl 0 rfl) ?_
  refine lv_dup hx hb dX8_readNumber_71 rfl ?_
  refine gf_X8_30 C G kd_1 dX8_readNumber_72 ?_
  refine lv_iconst (v := 1) hx hb dX8_readNumber_75 (by decide) ?_
  refine lv_iadd hx hb dX8_readNumber_76 ?_
  refine pf_X8_30 C G kd_1 hs dX8_readNumber_77 (fun σ_9 H locs hs G => ?_)
  refine lv_goto (tgt := 23) hx hb dX8_readNumber_80 (by decide) ?_
  exact hh _ _ _ _ _ _ _ hs G (lv_sub hl [0, 1, 2, 3] rfl)
def fX8_readNumber_23b (kh : Sg → Int32 → Int32 → Int32 → Option (Int32 × Sg)) (kx : Sg → Int32 → Int32 → Int32 → Option (Int32 × Sg)) (σ : Sg) (x1 : Int32) (x2 : Int32) (x3 : Int32) : Option (Int32 × Sg) :=
  (if (σ 1 1) ≤ (σ 1 4) then kx σ x1 x2 x3 else bi (fX8_letter σ) (fun r_5 σ_5 => bi (fX8_isFigure σ_5 r_5) (fun r_6 σ_6 => (if r_6 = 0 then kx σ_6 x1 x2 x3 else (if 4 ≤ ((σ_6 1 4) - (σ_6 1 5)) then fX8_readNumber_70 kh kx σ_6 x1 x2 x3 else bi (fX8_letter σ_6) (fun r_10 σ_10 => lt (((x3 * 10) + r_10) - 48) (fun x3_11 => fX8_readNumber_70 kh kx σ_10 x1 x2 x3_11)))))))
set_option maxRecDepth 100000 in
set_option maxHeartbeats 4000000 in
theorem wX8_readNumber_23b {p : Program} {l : Launch} {e : Env} {s : State} {m : MethodId} {args : Array Value} {below : List Frame} {meth : Method} {c : Code} {D : va_G} {cI cZ cO : ClassId} {b : Nat} (C : Cx p s m args meth c cX8_readNumber RX8 5 (some .int) D cI cZ cO) {Rr : (Int32 × Sg)} {kh : Sg → Int32 → Int32 → Int32 → Option (Int32 × Sg)} {kx : Sg → Int32 → Int32 → Int32 → Option (Int32 × Sg)} (hh : ∀ (σ : Sg) (x1 : Int32) (x2 : Int32) (x3 : Int32) (H : Heap) (locs : List Loc) (ls : Array Slot), kh σ x1 x2 x3 = some Rr → Gd b D cI cZ cO σ s.heap H locs → lv_has ls 5 [(0, .ref (b + 1)), (1, .int x1), (2, .int x2), (3, .int x3)] → W p l e rmX8_readNumber s m args below meth c H locs 0 0 (MQ below (QI b D cI cZ cO Rr) args s 0 0 (fun q => b ≤ q)) (F0 m 23 ls [])) (hxx : ∀ (σ : Sg) (x1 : Int32) (x2 : Int32) (x3 : Int32) (H : Heap) (locs : List Loc) (ls : Array Slot), kx σ x1 x2 x3 = some Rr → Gd b D cI cZ cO σ s.heap H locs → lv_has ls 5 [(0, .ref (b + 1)), (1, .int x1), (2, .int x2), (3, .int x3)] → W p l e rmX8_readNumber s m args below meth c H locs 0 0 (MQ below (QI b D cI cZ cO Rr) args s 0 0 (fun q => b ≤ q)) (F0 m 83 ls [])) {σ : Sg} {x1 : Int32} {x2 : Int32} {x3 : Int32} {H : Heap} {locs : List Loc} {ls : Array Slot} (hs : fX8_readNumber_23b kh kx σ x1 x2 x3 = some Rr) (G : Gd b D cI cZ cO σ s.heap H locs) (hl : lv_has ls 5 [(0, .ref (b + 1)), (1, .int x1), (2, .int x2), (3, .int x3)]) : W p l e rmX8_readNumber s m args below meth c H locs 0 0 (MQ below (QI b D cI cZ cO Rr) args s 0 0 (fun q => b ≤ q)) (F0 m 23 ls []) := by
  have hx := C.1
  have hb := C.2.1
  unfold fX8_readNumber_23b at hs
  refine lv_aload_n hx hb dX8_readNumber_23 rfl (lv_at hl 0 rfl) ?_
  refine gf_X8_30 C G kd_1 dX8_readNumber_24 ?_
  refine lv_aload_n hx hb dX8_readNumber_27 rfl (lv_at hl 0 rfl) ?_
  refine gf_X8_19 C G kd_1 dX8_readNumber_28 ?_
  refine lv_icmp_ge (tgt := 83) hx hb dX8_readNumber_31 (by decide) (fun c_4 => ?_) (fun c_4 => ?_)
  · replace hs := ifT c_4 hs
    exact hxx _ _ _ _ _ _ _ hs G (lv_sub hl [0, 1, 2, 3] rfl)
  · replace hs := ifF c_4 hs
    refine lv_aload_n hx hb dX8_readNumber_34 rfl (lv_at hl 0 rfl) ?_
    obtain ⟨r_5, σ_5, hc, hs⟩ := biE hs
    refine callVI (ar := 0) (As := []) (rest := []) C G hl.1 (ctX8_letter _  hc) ⟨wd_447, wd_449, wd_1, wd_70, wd_450⟩ (by decide +kernel) rfl ⟨rfl, rfl⟩ ⟨Nat.le_of_ble_eq_true rfl, Nat.le_of_ble_eq_true rfl⟩ (kd_lt kd_1 (by decide)) (ent_8 b cI cZ cO _ kd_1) rfl (Nat.le_of_ble_eq_true rfl) ⟨Nat.le_of_ble_eq_true rfl, Nat.le_of_ble_eq_true rfl⟩ dX8_readNumber_35 rfl (fun H locs G => ?_)
    obtain ⟨r_6, σ_6, hc, hs⟩ := biE hs
    refine callSI (ar := 1) (As := [.int r_5]) (rest := []) C G hl.1 (ctX8_isFigure _  hc) ⟨wd_470, wd_471, wd_70, wd_472⟩ (by decide +kernel) rfl ⟨rfl, rfl⟩ ⟨Nat.le_of_ble_eq_true rfl, Nat.le_of_ble_eq_true rfl⟩ (Nat.le_of_ble_eq_true rfl) ⟨Nat.le_of_ble_eq_true rfl, Nat.le_of_ble_eq_true rfl⟩ dX8_readNumber_38 rfl (fun H locs G => ?_)
    refine lv_if_eq (tgt := 83) hx hb dX8_readNumber_41 (by decide) (fun c_7 => ?_) (fun c_7 => ?_)
    · replace hs := ifT c_7 hs
      exact hxx _ _ _ _ _ _ _ hs G (lv_sub hl [0, 1, 2, 3] rfl)
    · replace hs := ifF c_7 hs
      refine lv_aload_n hx hb dX8_readNumber_44 rfl (lv_at hl 0 rfl) ?_
      refine gf_X8_30 C G kd_1 dX8_readNumber_45 ?_
      refine lv_aload_n hx hb dX8_readNumber_48 rfl (lv_at hl 0 rfl) ?_
      refine gf_X8_91 C G kd_1 dX8_readNumber_49 ?_
      refine lv_isub hx hb dX8_readNumber_52 ?_
      refine lv_iconst (v := 4) hx hb dX8_readNumber_53 (by decide) ?_
      refine lv_icmp_ge (tgt := 70) hx hb dX8_readNumber_54 (by decide) (fun c_8 => ?_) (fun c_8 => ?_)
      · replace hs := ifT c_8 hs
        exact wX8_readNumber_70 C  hh hxx hs G (lv_sub hl [0, 1, 2, 3] rfl)
      · replace hs := ifF c_8 hs
        refine lv_iload_n hx hb dX8_readNumber_57 rfl (lv_at hl 3 rfl) ?_
        refine lv_bipush (v := 10) hx hb dX8_readNumber_58 (by decide) ?_
        refine lv_imul hx hb dX8_readNumber_60 ?_
        refine lv_aload_n hx hb dX8_readNumber_61 rfl (lv_at hl 0 rfl) ?_
        obtain ⟨r_10, σ_10, hc, hs⟩ := biE hs
        refine callVI (ar := 0) (As := []) (rest := [.int (x3 * 10)]) C G hl.1 (ctX8_letter _  hc) ⟨wd_447, wd_449, wd_1, wd_70, wd_450⟩ (by decide +kernel) rfl ⟨rfl, rfl⟩ ⟨Nat.le_of_ble_eq_true rfl, Nat.le_of_ble_eq_true rfl⟩ (kd_lt kd_1 (by decide)) (ent_8 b cI cZ cO _ kd_1) rfl (Nat.le_of_ble_eq_true rfl) ⟨Nat.le_of_ble_eq_true rfl, Nat.le_of_ble_eq_true rfl⟩ dX8_readNumber_62 rfl (fun H locs G => ?_)
        refine lv_iadd hx hb dX8_readNumber_65 ?_
        refine lv_bipush (v := 48) hx hb dX8_readNumber_66 (by decide) ?_
        refine lv_isub hx hb dX8_readNumber_68 ?_
        refine topI hs (fun x3_11 hs => ?_)
        refine lv_istore_n (lv' := [(3, .int x3_11), (0, .ref (b + 1)), (1, .int x1), (2, .int x2)]) hx hb dX8_readNumber_69 rfl hl (by decide) rfl (fun ls hl => ?_)
        exact wX8_readNumber_70 C  hh hxx hs G (lv_sub hl [1, 2, 3, 0] rfl)
def fX8_readNumber_23 : Nat → (Sg → Int32 → Int32 → Int32 → Option (Int32 × Sg)) → Sg → Int32 → Int32 → Int32 → Option (Int32 × Sg)
  | 0, _, _, _, _, _ => none
  | fu + 1, kx, σ, x1, x2, x3 => fX8_readNumber_23b (fX8_readNumber_23 fu kx) kx σ x1 x2 x3
theorem fX8_readNumber_23_s (fu : Nat) (kx : Sg → Int32 → Int32 → Int32 → Option (Int32 × Sg)) (σ : Sg) (x1 : Int32) (x2 : Int32) (x3 : Int32) : fX8_readNumber_23 (fu + 1) kx σ x1 x2 x3 = fX8_readNumber_23b (fX8_readNumber_23 fu kx) kx σ x1 x2 x3 := by rw [fX8_readNumber_23]
theorem wX8_readNumber_23 {p : Program} {l : Launch} {e : Env} {s : State} {m : MethodId} {args : Array Value} {below : List Frame} {meth : Method} {c : Code} {D : va_G} {cI cZ cO : ClassId} {b : Nat} (C : Cx p s m args meth c cX8_readNumber RX8 5 (some .int) D cI cZ cO) {Rr : (Int32 × Sg)} {kx : Sg → Int32 → Int32 → Int32 → Option (Int32 × Sg)} (hxx : ∀ (σ : Sg) (x1 : Int32) (x2 : Int32) (x3 : Int32) (H : Heap) (locs : List Loc) (ls : Array Slot), kx σ x1 x2 x3 = some Rr → Gd b D cI cZ cO σ s.heap H locs → lv_has ls 5 [(0, .ref (b + 1)), (1, .int x1), (2, .int x2), (3, .int x3)] → W p l e rmX8_readNumber s m args below meth c H locs 0 0 (MQ below (QI b D cI cZ cO Rr) args s 0 0 (fun q => b ≤ q)) (F0 m 83 ls [])) : ∀ (fu : Nat) (σ : Sg) (x1 : Int32) (x2 : Int32) (x3 : Int32) (H : Heap) (locs : List Loc) (ls : Array Slot), fX8_readNumber_23 fu kx σ x1 x2 x3 = some Rr → Gd b D cI cZ cO σ s.heap H locs → lv_has ls 5 [(0, .ref (b + 1)), (1, .int x1), (2, .int x2), (3, .int x3)] → W p l e rmX8_readNumber s m args below meth c H locs 0 0 (MQ below (QI b D cI cZ cO Rr) args s 0 0 (fun q => b ≤ q)) (F0 m 23 ls []) := by
  intro fu
  induction fu with
  | zero => intro σ x1 x2 x3 H locs ls hs; cases hs
  | succ fu ih =>
    intro σ x1 x2 x3 H locs ls hs G hl
    exact wX8_readNumber_23b C (fun σ x1 x2 x3 H locs ls hs G hl => ih σ x1 x2 x3 H locs ls hs G hl) hxx hs G hl
def fX8_readNumber_136 (σ : Sg) (x3 : Int32) : Option (Int32 × Sg) :=
  some (x3, σ)
set_option maxRecDepth 100000 in
set_option maxHeartbeats 4000000 in
theorem wX8_readNumber_136 {p : Program} {l : Launch} {e : Env} {s : State} {m : MethodId} {args : Array Value} {below : List Frame} {meth : Method} {c : Code} {D : va_G} {cI cZ cO : ClassId} {b : Nat} (C : Cx p s m args meth c cX8_readNumber RX8 5 (some .int) D cI cZ cO) {Rr : (Int32 × Sg)} {σ : Sg} {x3 : Int32} {H : Heap} {locs : List Loc} {ls : Array Slot} (hs : fX8_readNumber_136 σ x3 = some Rr) (G : Gd b D cI cZ cO σ s.heap H locs) (hl : lv_has ls 5 [(3, .int x3)]) : W p l e rmX8_readNumber s m args below meth c H locs 0 0 (MQ below (QI b D cI cZ cO Rr) args s 0 0 (fun q => b ≤ q)) (F0 m 136 ls []) := by
  have hx := C.1
  have hb := C.2.1
  unfold fX8_readNumber_136 at hs
  refine lv_iload_n hx hb dX8_readNumber_136 rfl (lv_at hl 0 rfl) ?_
  exact retI C G hs dX8_readNumber_137
def fX8_readNumber_127 (σ : Sg) (x3 : Int32) : Option (Int32 × Sg) :=
  bv (fX8_fail σ 2 (σ 1 5)) (fun σ_16 => fX8_readNumber_136 σ_16 x3)
set_option maxRecDepth 100000 in
set_option maxHeartbeats 4000000 in
theorem wX8_readNumber_127 {p : Program} {l : Launch} {e : Env} {s : State} {m : MethodId} {args : Array Value} {below : List Frame} {meth : Method} {c : Code} {D : va_G} {cI cZ cO : ClassId} {b : Nat} (C : Cx p s m args meth c cX8_readNumber RX8 5 (some .int) D cI cZ cO) {Rr : (Int32 × Sg)} {σ : Sg} {x3 : Int32} {H : Heap} {locs : List Loc} {ls : Array Slot} (hs : fX8_readNumber_127 σ x3 = some Rr) (G : Gd b D cI cZ cO σ s.heap H locs) (hl : lv_has ls 5 [(0, .ref (b + 1)), (3, .int x3)]) : W p l e rmX8_readNumber s m args below meth c H locs 0 0 (MQ below (QI b D cI cZ cO Rr) args s 0 0 (fun q => b ≤ q)) (F0 m 127 ls []) := by
  have hx := C.1
  have hb := C.2.1
  unfold fX8_readNumber_127 at hs
  refine lv_aload_n hx hb dX8_readNumber_127 rfl (lv_at hl 0 rfl) ?_
  refine lv_iconst (v := 2) hx hb dX8_readNumber_128 (by decide) ?_
  refine lv_aload_n hx hb dX8_readNumber_129 rfl (lv_at hl 0 rfl) ?_
  refine gf_X8_91 C G kd_1 dX8_readNumber_130 ?_
  obtain ⟨σ_16, hc, hs⟩ := bvE hs
  refine callVV (ar := 2) (As := [.int 2, .int (σ 1 5)]) (rest := []) C G hl.1 (ctX8_fail _  hc) ⟨wd_458, wd_460, wd_3, wd_70, wd_461⟩ (by decide +kernel) rfl ⟨rfl, rfl⟩ ⟨Nat.le_of_ble_eq_true rfl, Nat.le_of_ble_eq_true rfl⟩ (kd_lt kd_1 (by decide)) (ent_8 b cI cZ cO _ kd_1) rfl (Nat.le_of_ble_eq_true rfl) ⟨Nat.le_of_ble_eq_true rfl, Nat.le_of_ble_eq_true rfl⟩ dX8_readNumber_133 rfl (fun H locs G => ?_)
  exact wX8_readNumber_136 C   hs G (lv_sub hl [1] rfl)
def fX8_readNumber_83 (σ : Sg) (x1 : Int32) (x2 : Int32) (x3 : Int32) : Option (Int32 × Sg) :=
  lt ((σ 1 4) - (σ 1 5)) (fun x4_13 => (if x4_13 = 0 then bv (fX8_fail σ 1 (σ 1 5)) (fun σ_19 => fX8_readNumber_136 σ_19 x3) else (if 3 < x4_13 then fX8_readNumber_127 σ x3 else (if x3 < x1 then fX8_readNumber_127 σ x3 else (if x3 ≤ x2 then fX8_readNumber_136 σ x3 else fX8_readNumber_127 σ x3)))))
set_option maxRecDepth 100000 in
set_option maxHeartbeats 4000000 in
theorem wX8_readNumber_83 {p : Program} {l : Launch} {e : Env} {s : State} {m : MethodId} {args : Array Value} {below : List Frame} {meth : Method} {c : Code} {D : va_G} {cI cZ cO : ClassId} {b : Nat} (C : Cx p s m args meth c cX8_readNumber RX8 5 (some .int) D cI cZ cO) {Rr : (Int32 × Sg)} {σ : Sg} {x1 : Int32} {x2 : Int32} {x3 : Int32} {H : Heap} {locs : List Loc} {ls : Array Slot} (hs : fX8_readNumber_83 σ x1 x2 x3 = some Rr) (G : Gd b D cI cZ cO σ s.heap H locs) (hl : lv_has ls 5 [(0, .ref (b + 1)), (1, .int x1), (2, .int x2), (3, .int x3)]) : W p l e rmX8_readNumber s m args below meth c H locs 0 0 (MQ below (QI b D cI cZ cO Rr) args s 0 0 (fun q => b ≤ q)) (F0 m 83 ls []) := by
  have hx := C.1
  have hb := C.2.1
  unfold fX8_readNumber_83 at hs
  refine lv_aload_n hx hb dX8_readNumber_83 rfl (lv_at hl 0 rfl) ?_
  refine gf_X8_30 C G kd_1 dX8_readNumber_84 ?_
  refine lv_aload_n hx hb dX8_readNumber_87 rfl (lv_at hl 0 rfl) ?_
  refine gf_X8_91 C G kd_1 dX8_readNumber_88 ?_
  refine lv_isub hx hb dX8_readNumber_91 ?_
  refine topI hs (fun x4_13 hs => ?_)
  refine lv_istore (lv' := [(4, .int x4_13), (0, .ref (b + 1)), (1, .int x1), (2, .int x2), (3, .int x3)]) hx hb dX8_readNumber_92 hl (by decide) rfl (fun ls hl => ?_)
  refine lv_iload hx hb dX8_readNumber_94 (lv_at hl 0 rfl) ?_
  refine lv_if_ne (tgt := 111) hx hb dX8_readNumber_96 (by decide) (fun c_14 => ?_) (fun c_14 => ?_)
  · replace hs := ifF c_14 hs
    refine lv_iload hx hb dX8_readNumber_111 (lv_at hl 0 rfl) ?_
    refine lv_iconst (v := 3) hx hb dX8_readNumber_113 (by decide) ?_
    refine lv_icmp_gt (tgt := 127) hx hb dX8_readNumber_114 (by decide) (fun c_15 => ?_) (fun c_15 => ?_)
    · replace hs := ifT c_15 hs
      exact wX8_readNumber_127 C   hs G (lv_sub hl [1, 4] rfl)
    · replace hs := ifF c_15 hs
      refine lv_iload_n hx hb dX8_readNumber_117 rfl (lv_at hl 4 rfl) ?_
      refine lv_iload_n hx hb dX8_readNumber_118 rfl (lv_at hl 2 rfl) ?_
      refine lv_icmp_lt (tgt := 127) hx hb dX8_readNumber_119 (by decide) (fun c_17 => ?_) (fun c_17 => ?_)
      · replace hs := ifT c_17 hs
        exact wX8_readNumber_127 C   hs G (lv_sub hl [1, 4] rfl)
      · replace hs := ifF c_17 hs
        refine lv_iload_n hx hb dX8_readNumber_122 rfl (lv_at hl 4 rfl) ?_
        refine lv_iload_n hx hb dX8_readNumber_123 rfl (lv_at hl 3 rfl) ?_
        refine lv_icmp_le (tgt := 136) hx hb dX8_readNumber_124 (by decide) (fun c_18 => ?_) (fun c_18 => ?_)
        · replace hs := ifT c_18 hs
          exact wX8_readNumber_136 C   hs G (lv_sub hl [4] rfl)
        · replace hs := ifF c_18 hs
          exact wX8_readNumber_127 C   hs G (lv_sub hl [1, 4] rfl)
  · replace hs := ifT c_14 hs
    refine lv_aload_n hx hb dX8_readNumber_99 rfl (lv_at hl 1 rfl) ?_
    refine lv_iconst (v := 1) hx hb dX8_readNumber_100 (by decide) ?_
    refine lv_aload_n hx hb dX8_readNumber_101 rfl (lv_at hl 1 rfl) ?_
    refine gf_X8_91 C G kd_1 dX8_readNumber_102 ?_
    obtain ⟨σ_19, hc, hs⟩ := bvE hs
    refine callVV (ar := 2) (As := [.int 1, .int (σ 1 5)]) (rest := []) C G hl.1 (ctX8_fail _  hc) ⟨wd_458, wd_460, wd_3, wd_70, wd_461⟩ (by decide +kernel) rfl ⟨rfl, rfl⟩ ⟨Nat.le_of_ble_eq_true rfl, Nat.le_of_ble_eq_true rfl⟩ (kd_lt kd_1 (by decide)) (ent_8 b cI cZ cO _ kd_1) rfl (Nat.le_of_ble_eq_true rfl) ⟨Nat.le_of_ble_eq_true rfl, Nat.le_of_ble_eq_true rfl⟩ dX8_readNumber_105 rfl (fun H locs G => ?_)
    refine lv_goto (tgt := 136) hx hb dX8_readNumber_108 (by decide) ?_
    exact wX8_readNumber_136 C   hs G (lv_sub hl [4] rfl)
def fX8_readNumber (σ : Sg) (x1 : Int32) (x2 : Int32) : Option (Int32 × Sg) :=
  (if (σ 1 2) = 0 then bv (fX8_skipBlanks σ) (fun σ_2 => lt (st σ_2 1 5 (σ_2 1 4)) (fun σ_3 => fX8_readNumber_23 FU (fun σ_12 x1_12 x2_12 x3_12 => fX8_readNumber_83 σ_12 x1_12 x2_12 x3_12) σ_3 x1 x2 0)) else some (0, σ))
set_option maxRecDepth 100000 in
set_option maxHeartbeats 4000000 in
theorem ctX8_readNumber (l : Launch) {D : va_G} {cI cZ cO : ClassId} {b : Nat} {σ : Sg} {x1 : Int32} {x2 : Int32} {Rr : (Int32 × Sg)} (hs : fX8_readNumber σ x1 x2 = some Rr) : MI l yX8_readNumber cX8_readNumber 5 (some .int) rmX8_readNumber [.ref (b + 1), .int x1, .int x2] b D cI cZ cO σ Rr := by
  unfold fX8_readNumber at hs
  refine metI (by decide +kernel) (Nat.le_of_ble_eq_true rfl) (fun p e s m below meth c ls C G hl => ?_)
  have C : Cx p s m _ meth c cX8_readNumber RX8 5 (some .int) D cI cZ cO := C
  have hx := C.1
  have hb := C.2.1
  have hl : lv_has ls 5 [(0, .ref (b + 1)), (1, .int x1), (2, .int x2)] := hl
  refine lv_aload_n hx hb dX8_readNumber_0 rfl (lv_at hl 0 rfl) ?_
  refine gf_X8_27 C G kd_1 dX8_readNumber_1 ?_
  refine lv_if_eq (tgt := 9) hx hb dX8_readNumber_4 (by decide) (fun c_1 => ?_) (fun c_1 => ?_)
  · replace hs := ifT c_1 hs
    refine lv_aload_n hx hb dX8_readNumber_9 rfl (lv_at hl 0 rfl) ?_
    obtain ⟨σ_2, hc, hs⟩ := bvE hs
    refine callVV (ar := 0) (As := []) (rest := []) C G hl.1 (ctX8_skipBlanks _  hc) ⟨wd_443, wd_445, wd_0, wd_70, wd_446⟩ (by decide +kernel) rfl ⟨rfl, rfl⟩ ⟨Nat.le_of_ble_eq_true rfl, Nat.le_of_ble_eq_true rfl⟩ (kd_lt kd_1 (by decide)) (ent_8 b cI cZ cO _ kd_1) rfl (Nat.le_of_ble_eq_true rfl) ⟨Nat.le_of_ble_eq_true rfl, Nat.le_of_ble_eq_true rfl⟩ dX8_readNumber_10 rfl (fun H locs G => ?_)
    refine lv_aload_n hx hb dX8_readNumber_13 rfl (lv_at hl 0 rfl) ?_
    refine lv_aload_n hx hb dX8_readNumber_14 rfl (lv_at hl 0 rfl) ?_
    refine gf_X8_30 C G kd_1 dX8_readNumber_15 ?_
    refine pf_X8_91 C G kd_1 hs dX8_readNumber_18 (fun σ_3 H locs hs G => ?_)
    refine lv_iconst (v := 0) hx hb dX8_readNumber_21 (by decide) ?_
    refine lv_istore_n (lv' := [(3, .int 0), (0, .ref (b + 1)), (1, .int x1), (2, .int x2)]) hx hb dX8_readNumber_22 rfl hl (by decide) rfl (fun ls hl => ?_)
    refine wX8_readNumber_23 C (fun σ_12 x1_12 x2_12 x3_12 H locs ls hs G hl => ?_) FU _ _ _ _ _ _ _ hs G (lv_sub hl [1, 2, 3, 0] rfl)
    exact wX8_readNumber_83 C   hs G (lv_sub hl [0, 1, 2, 3] rfl)
  · replace hs := ifF c_1 hs
    refine lv_iconst (v := 0) hx hb dX8_readNumber_7 (by decide) ?_
    exact retI C G hs dX8_readNumber_8
-- X8_readEnd
def rmX8_readEnd : Room := { frames := 2, cells := 0, slots := 0, locals := 40 }
def fX8_readEnd_45 (σ : Sg) : Option Sg :=
  bv (fX8_fail σ 1 (σ 1 4)) (fun σ_4 => some σ_4)
set_option maxRecDepth 100000 in
set_option maxHeartbeats 4000000 in
theorem wX8_readEnd_45 {p : Program} {l : Launch} {e : Env} {s : State} {m : MethodId} {args : Array Value} {below : List Frame} {meth : Method} {c : Code} {D : va_G} {cI cZ cO : ClassId} {b : Nat} (C : Cx p s m args meth c cX8_readEnd RX8 1 none D cI cZ cO) {Rr : Sg} {σ : Sg} {H : Heap} {locs : List Loc} {ls : Array Slot} (hs : fX8_readEnd_45 σ = some Rr) (G : Gd b D cI cZ cO σ s.heap H locs) (hl : lv_has ls 1 [(0, .ref (b + 1))]) : W p l e rmX8_readEnd s m args below meth c H locs 0 0 (MQ below (QV b D cI cZ cO Rr) args s 0 0 (fun q => b ≤ q)) (F0 m 45 ls []) := by
  have hx := C.1
  have hb := C.2.1
  unfold fX8_readEnd_45 at hs
  refine lv_aload_n hx hb dX8_readEnd_45 rfl (lv_at hl 0 rfl) ?_
  refine lv_iconst (v := 1) hx hb dX8_readEnd_46 (by decide) ?_
  refine lv_aload_n hx hb dX8_readEnd_47 rfl (lv_at hl 0 rfl) ?_
  refine gf_X8_30 C G kd_1 dX8_readEnd_48 ?_
  obtain ⟨σ_4, hc, hs⟩ := bvE hs
  refine callVV (ar := 2) (As := [.int 1, .int (σ 1 4)]) (rest := []) C G hl.1 (ctX8_fail _  hc) ⟨wd_458, wd_460, wd_3, wd_70, wd_461⟩ (by decide +kernel) rfl ⟨rfl, rfl⟩ ⟨Nat.le_of_ble_eq_true rfl, Nat.le_of_ble_eq_true rfl⟩ (kd_lt kd_1 (by decide)) (ent_8 b cI cZ cO _ kd_1) rfl (Nat.le_of_ble_eq_true rfl) ⟨Nat.le_of_ble_eq_true rfl, Nat.le_of_ble_eq_true rfl⟩ dX8_readEnd_51 rfl (fun H locs G => ?_)
  exact retV C G hs dX8_readEnd_54
def fX8_readEnd (σ : Sg) : Option Sg :=
  (if (σ 1 2) = 0 then bv (fX8_skipBlanks σ) (fun σ_2 => (if (σ_2 1 1) ≤ (σ_2 1 4) then fX8_readEnd_45 σ_2 else bi (fX8_letter σ_2) (fun r_5 σ_5 => (if r_5 = 59 then lt (st σ_5 1 4 ((σ_5 1 4) + 1)) (fun σ_7 => some σ_7) else fX8_readEnd_45 σ_5)))) else some σ)
set_option maxRecDepth 100000 in
set_option maxHeartbeats 4000000 in
theorem ctX8_readEnd (l : Launch) {D : va_G} {cI cZ cO : ClassId} {b : Nat} {σ : Sg} {Rr : Sg} (hs : fX8_readEnd σ = some Rr) : MV l yX8_readEnd cX8_readEnd 1 rmX8_readEnd [.ref (b + 1)] b D cI cZ cO σ Rr := by
  unfold fX8_readEnd at hs
  refine metV (by decide +kernel) (Nat.le_of_ble_eq_true rfl) (fun p e s m below meth c ls C G hl => ?_)
  have C : Cx p s m _ meth c cX8_readEnd RX8 1 none D cI cZ cO := C
  have hx := C.1
  have hb := C.2.1
  have hl : lv_has ls 1 [(0, .ref (b + 1))] := hl
  refine lv_aload_n hx hb dX8_readEnd_0 rfl (lv_at hl 0 rfl) ?_
  refine gf_X8_27 C G kd_1 dX8_readEnd_1 ?_
  refine lv_if_eq (tgt := 8) hx hb dX8_readEnd_4 (by decide) (fun c_1 => ?_) (fun c_1 => ?_)
  · replace hs := ifT c_1 hs
    refine lv_aload_n hx hb dX8_readEnd_8 rfl (lv_at hl 0 rfl) ?_
    obtain ⟨σ_2, hc, hs⟩ := bvE hs
    refine callVV (ar := 0) (As := []) (rest := []) C G hl.1 (ctX8_skipBlanks _  hc) ⟨wd_443, wd_445, wd_0, wd_70, wd_446⟩ (by decide +kernel) rfl ⟨rfl, rfl⟩ ⟨Nat.le_of_ble_eq_true rfl, Nat.le_of_ble_eq_true rfl⟩ (kd_lt kd_1 (by decide)) (ent_8 b cI cZ cO _ kd_1) rfl (Nat.le_of_ble_eq_true rfl) ⟨Nat.le_of_ble_eq_true rfl, Nat.le_of_ble_eq_true rfl⟩ dX8_readEnd_9 rfl (fun H locs G => ?_)
    refine lv_aload_n hx hb dX8_readEnd_12 rfl (lv_at hl 0 rfl) ?_
    refine gf_X8_30 C G kd_1 dX8_readEnd_13 ?_
    refine lv_aload_n hx hb dX8_readEnd_16 rfl (lv_at hl 0 rfl) ?_
    refine gf_X8_19 C G kd_1 dX8_readEnd_17 ?_
    refine lv_icmp_ge (tgt := 45) hx hb dX8_readEnd_20 (by decide) (fun c_3 => ?_) (fun c_3 => ?_)
    · replace hs := ifT c_3 hs
      exact wX8_readEnd_45 C   hs G (lv_sub hl [0] rfl)
    · replace hs := ifF c_3 hs
      refine lv_aload_n hx hb dX8_readEnd_23 rfl (lv_at hl 0 rfl) ?_
      obtain ⟨r_5, σ_5, hc, hs⟩ := biE hs
      refine callVI (ar := 0) (As := []) (rest := []) C G hl.1 (ctX8_letter _  hc) ⟨wd_447, wd_449, wd_1, wd_70, wd_450⟩ (by decide +kernel) rfl ⟨rfl, rfl⟩ ⟨Nat.le_of_ble_eq_true rfl, Nat.le_of_ble_eq_true rfl⟩ (kd_lt kd_1 (by decide)) (ent_8 b cI cZ cO _ kd_1) rfl (Nat.le_of_ble_eq_true rfl) ⟨Nat.le_of_ble_eq_true rfl, Nat.le_of_ble_eq_true rfl⟩ dX8_readEnd_24 rfl (fun H locs G => ?_)
      refine lv_bipush (v := 59) hx hb dX8_readEnd_27 (by decide) ?_
      refine lv_icmp_ne (tgt := 45) hx hb dX8_readEnd_29 (by decide) (fun c_6 => ?_) (fun c_6 => ?_)
      · replace hs := ifF c_6 hs
        exact wX8_readEnd_45 C   hs G (lv_sub hl [0] rfl)
      · replace hs := ifT c_6 hs
        refine lv_aload_n hx hb dX8_readEnd_32 rfl (lv_at hl 0 rfl) ?_
        refine lv_dup hx hb dX8_readEnd_33 rfl ?_
        refine gf_X8_30 C G kd_1 dX8_readEnd_34 ?_
        refine lv_iconst (v := 1) hx hb dX8_readEnd_37 (by decide) ?_
        refine lv_iadd hx hb dX8_readEnd_38 ?_
        refine pf_X8_30 C G kd_1 hs dX8_readEnd_39 (fun σ_7 H locs hs G => ?_)
        refine lv_goto (tgt := 54) hx hb dX8_readEnd_42 (by decide) ?_
        exact retV C G hs dX8_readEnd_54
  · replace hs := ifF c_1 hs
    exact retV C G hs dX8_readEnd_7
-- X8_readOracle
def rmX8_readOracle : Room := { frames := 3, cells := 0, slots := 0, locals := 64 }
def fX8_readOracle (n1 : Nat) (σ : Sg) : Option Sg :=
  bi (fX8_readNumber σ 1 20) (fun r_1 σ_1 => lt (st σ_1 n1 1 r_1) (fun σ_2 => bi (fX8_readNumber σ_2 1 9) (fun r_3 σ_3 => lt (st σ_3 n1 2 r_3) (fun σ_4 => bv (fX8_readEnd σ_4) (fun σ_5 => lt (st σ_5 n1 0 1) (fun σ_6 => some σ_6))))))
set_option maxRecDepth 100000 in
set_option maxHeartbeats 4000000 in
theorem ctX8_readOracle (l : Launch) {n1 : Nat} (hk1 : kd n1 = 4) {D : va_G} {cI cZ cO : ClassId} {b : Nat} {σ : Sg} {Rr : Sg} (hs : fX8_readOracle n1 σ = some Rr) : MV l yX8_readOracle cX8_readOracle 2 rmX8_readOracle [.ref (b + 1), .ref (b + n1)] b D cI cZ cO σ Rr := by
  unfold fX8_readOracle at hs
  refine metV (by decide +kernel) (Nat.le_of_ble_eq_true rfl) (fun p e s m below meth c ls C G hl => ?_)
  have C : Cx p s m _ meth c cX8_readOracle RX8 2 none D cI cZ cO := C
  have hx := C.1
  have hb := C.2.1
  have hl : lv_has ls 2 [(0, .ref (b + 1)), (1, .ref (b + n1))] := hl
  refine lv_aload_n hx hb dX8_readOracle_0 rfl (lv_at hl 1 rfl) ?_
  refine lv_aload_n hx hb dX8_readOracle_1 rfl (lv_at hl 0 rfl) ?_
  refine lv_iconst (v := 1) hx hb dX8_readOracle_2 (by decide) ?_
  refine lv_bipush (v := 20) hx hb dX8_readOracle_3 (by decide) ?_
  obtain ⟨r_1, σ_1, hc, hs⟩ := biE hs
  refine callVI (ar := 2) (As := [.int 1, .int 20]) (rest := [.ref (b + n1)]) C G hl.1 (ctX8_readNumber _  hc) ⟨wd_466, wd_468, wd_5, wd_70, wd_469⟩ (by decide +kernel) rfl ⟨rfl, rfl⟩ ⟨Nat.le_of_ble_eq_true rfl, Nat.le_of_ble_eq_true rfl⟩ (kd_lt kd_1 (by decide)) (ent_8 b cI cZ cO _ kd_1) rfl (Nat.le_of_ble_eq_true rfl) ⟨Nat.le_of_ble_eq_true rfl, Nat.le_of_ble_eq_true rfl⟩ dX8_readOracle_5 rfl (fun H locs G => ?_)
  refine pf_X8_78 C G hk1 hs dX8_readOracle_8 (fun σ_2 H locs hs G => ?_)
  refine lv_aload_n hx hb dX8_readOracle_11 rfl (lv_at hl 1 rfl) ?_
  refine lv_aload_n hx hb dX8_readOracle_12 rfl (lv_at hl 0 rfl) ?_
  refine lv_iconst (v := 1) hx hb dX8_readOracle_13 (by decide) ?_
  refine lv_bipush (v := 9) hx hb dX8_readOracle_14 (by decide) ?_
  obtain ⟨r_3, σ_3, hc, hs⟩ := biE hs
  refine callVI (ar := 2) (As := [.int 1, .int 9]) (rest := [.ref (b + n1)]) C G hl.1 (ctX8_readNumber _  hc) ⟨wd_466, wd_468, wd_5, wd_70, wd_469⟩ (by decide +kernel) rfl ⟨rfl, rfl⟩ ⟨Nat.le_of_ble_eq_true rfl, Nat.le_of_ble_eq_true rfl⟩ (kd_lt kd_1 (by decide)) (ent_8 b cI cZ cO _ kd_1) rfl (Nat.le_of_ble_eq_true rfl) ⟨Nat.le_of_ble_eq_true rfl, Nat.le_of_ble_eq_true rfl⟩ dX8_readOracle_16 rfl (fun H locs G => ?_)
  refine pf_X8_81 C G hk1 hs dX8_readOracle_19 (fun σ_4 H locs hs G => ?_)
  refine lv_aload_n hx hb dX8_readOracle_22 rfl (lv_at hl 0 rfl) ?_
  obtain ⟨σ_5, hc, hs⟩ := bvE hs
  refine callVV (ar := 0) (As := []) (rest := []) C G hl.1 (ctX8_readEnd _  hc) ⟨wd_473, wd_475, wd_6, wd_70, wd_476⟩ (by decide +kernel) rfl ⟨rfl, rfl⟩ ⟨Nat.le_of_ble_eq_true rfl, Nat.le_of_ble_eq_true rfl⟩ (kd_lt kd_1 (by decide)) (ent_8 b cI cZ cO _ kd_1) rfl (Nat.le_of_ble_eq_true rfl) ⟨Nat.le_of_ble_eq_true rfl, Nat.le_of_ble_eq_true rfl⟩ dX8_readOracle_23 rfl (fun H locs G => ?_)
  refine lv_aload_n hx hb dX8_readOracle_26 rfl (lv_at hl 1 rfl) ?_
  refine lv_iconst (v := 1) hx hb dX8_readOracle_27 (by decide) ?_
  refine pf_X8_64 C G hk1 (by decide) hs dX8_readOracle_28 (fun σ_6 H locs hs G => ?_)
  exact retV C G hs dX8_readOracle_31
-- X8_readVillage
def rmX8_readVillage : Room := { frames := 3, cells := 0, slots := 0, locals := 64 }
def fX8_readVillage (n1 : Nat) (σ : Sg) : Option Sg :=
  bi (fX8_readNumber σ 0 99) (fun r_1 σ_1 => bv (fX8_readEnd σ_1) (fun σ_2 => bv (fX4_addVillage n1 σ_2 r_1) (fun σ_3 => some σ_3)))
set_option maxRecDepth 100000 in
set_option maxHeartbeats 4000000 in
theorem ctX8_readVillage (l : Launch) {n1 : Nat} (hk1 : kd n1 = 4) {D : va_G} {cI cZ cO : ClassId} {b : Nat} {σ : Sg} {Rr : Sg} (hs : fX8_readVillage n1 σ = some Rr) : MV l yX8_readVillage cX8_readVillage 3 rmX8_readVillage [.ref (b + 1), .ref (b + n1)] b D cI cZ cO σ Rr := by
  unfold fX8_readVillage at hs
  refine metV (by decide +kernel) (Nat.le_of_ble_eq_true rfl) (fun p e s m below meth c ls C G hl => ?_)
  have C : Cx p s m _ meth c cX8_readVillage RX8 3 none D cI cZ cO := C
  have hx := C.1
  have hb := C.2.1
  have hl : lv_has ls 3 [(0, .ref (b + 1)), (1, .ref (b + n1))] := hl
  refine lv_aload_n hx hb dX8_readVillage_0 rfl (lv_at hl 0 rfl) ?_
  refine lv_iconst (v := 0) hx hb dX8_readVillage_1 (by decide) ?_
  refine lv_bipush (v := 99) hx hb dX8_readVillage_2 (by decide) ?_
  obtain ⟨r_1, σ_1, hc, hs⟩ := biE hs
  refine callVI (ar := 2) (As := [.int 0, .int 99]) (rest := []) C G hl.1 (ctX8_readNumber _  hc) ⟨wd_466, wd_468, wd_5, wd_70, wd_469⟩ (by decide +kernel) rfl ⟨rfl, rfl⟩ ⟨Nat.le_of_ble_eq_true rfl, Nat.le_of_ble_eq_true rfl⟩ (kd_lt kd_1 (by decide)) (ent_8 b cI cZ cO _ kd_1) rfl (Nat.le_of_ble_eq_true rfl) ⟨Nat.le_of_ble_eq_true rfl, Nat.le_of_ble_eq_true rfl⟩ dX8_readVillage_4 rfl (fun H locs G => ?_)
  refine lv_istore_n (lv' := [(2, .int r_1), (0, .ref (b + 1)), (1, .ref (b + n1))]) hx hb dX8_readVillage_7 rfl hl (by decide) rfl (fun ls hl => ?_)
  refine lv_aload_n hx hb dX8_readVillage_8 rfl (lv_at hl 1 rfl) ?_
  obtain ⟨σ_2, hc, hs⟩ := bvE hs
  refine callVV (ar := 0) (As := []) (rest := []) C G hl.1 (ctX8_readEnd _  hc) ⟨wd_473, wd_475, wd_6, wd_70, wd_476⟩ (by decide +kernel) rfl ⟨rfl, rfl⟩ ⟨Nat.le_of_ble_eq_true rfl, Nat.le_of_ble_eq_true rfl⟩ (kd_lt kd_1 (by decide)) (ent_8 b cI cZ cO _ kd_1) rfl (Nat.le_of_ble_eq_true rfl) ⟨Nat.le_of_ble_eq_true rfl, Nat.le_of_ble_eq_true rfl⟩ dX8_readVillage_9 rfl (fun H locs G => ?_)
  refine lv_aload_n hx hb dX8_readVillage_12 rfl (lv_at hl 2 rfl) ?_
  refine lv_iload_n hx hb dX8_readVillage_13 rfl (lv_at hl 0 rfl) ?_
  obtain ⟨σ_3, hc, hs⟩ := bvE hs
  refine callVV (ar := 1) (As := [.int r_1]) (rest := []) C G hl.1 (ctX4_addVillage _ hk1 hc) ⟨wd_481, wd_482, wd_483, wd_72, wd_484⟩ (by decide +kernel) rfl ⟨rfl, rfl⟩ ⟨Nat.le_of_ble_eq_true rfl, Nat.le_of_ble_eq_true rfl⟩ (kd_lt hk1 (by decide)) (ent_4 b cI cZ cO _ hk1) rfl (Nat.le_of_ble_eq_true rfl) ⟨Nat.le_of_ble_eq_true rfl, Nat.le_of_ble_eq_true rfl⟩ dX8_readVillage_14 rfl (fun H locs G => ?_)
  exact retV C G hs dX8_readVillage_17
