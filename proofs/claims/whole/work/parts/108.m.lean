-- X8_readPerson
def rmX8_readPerson : Room := { frames := 3, cells := 0, slots := 0, locals := 64 }
def fX8_readPerson_60 (n1 : Nat) (σ : Sg) (x2 : Int32) (x3 : Int32) (x4 : Int32) (x5 : Int32) : Option Sg :=
  bv (fX8_readEnd σ) (fun σ_7 => (if (σ_7 1 2) = 0 then bv (fX4_addPerson n1 σ_7 x2 x3 x4 x5) (fun σ_9 => some σ_9) else some σ_7))
set_option maxRecDepth 100000 in
set_option maxHeartbeats 4000000 in
theorem wX8_readPerson_60 {p : Program} {l : Launch} {e : Env} {s : State} {m : MethodId} {args : Array Value} {below : List Frame} {meth : Method} {c : Code} {D : va_G} {cI cZ cO : ClassId} {b : Nat} (C : Cx p s m args meth c cX8_readPerson RX8 6 none D cI cZ cO) {n1 : Nat} (hk1 : kd n1 = 4) {Rr : Sg} {σ : Sg} {x2 : Int32} {x3 : Int32} {x4 : Int32} {x5 : Int32} {H : Heap} {locs : List Loc} {ls : Array Slot} (hs : fX8_readPerson_60 n1 σ x2 x3 x4 x5 = some Rr) (G : Gd b D cI cZ cO σ s.heap H locs) (hl : lv_has ls 6 [(0, .ref (b + 1)), (1, .ref (b + n1)), (2, .int x2), (3, .int x3), (4, .int x4), (5, .int x5)]) : W p l e rmX8_readPerson s m args below meth c H locs 0 0 (MQ below (QV b D cI cZ cO Rr) args s 0 0 (fun q => b ≤ q)) (F0 m 60 ls []) := by
  have hx := C.1
  have hb := C.2.1
  unfold fX8_readPerson_60 at hs
  refine lv_aload_n hx hb dX8_readPerson_60 rfl (lv_at hl 0 rfl) ?_
  obtain ⟨σ_7, hc, hs⟩ := bvE hs
  refine callVV (ar := 0) (As := []) (rest := []) C G hl.1 (ctX8_readEnd _  hc) ⟨wd_473, wd_475, wd_6, wd_70, wd_476⟩ (by decide +kernel) rfl ⟨rfl, rfl⟩ ⟨Nat.le_of_ble_eq_true rfl, Nat.le_of_ble_eq_true rfl⟩ (kd_lt kd_1 (by decide)) (ent_8 b cI cZ cO _ kd_1) rfl (Nat.le_of_ble_eq_true rfl) ⟨Nat.le_of_ble_eq_true rfl, Nat.le_of_ble_eq_true rfl⟩ dX8_readPerson_61 rfl (fun H locs G => ?_)
  refine lv_aload_n hx hb dX8_readPerson_64 rfl (lv_at hl 0 rfl) ?_
  refine gf_X8_27 C G kd_1 dX8_readPerson_65 ?_
  refine lv_if_ne (tgt := 81) hx hb dX8_readPerson_68 (by decide) (fun c_8 => ?_) (fun c_8 => ?_)
  · replace hs := ifF c_8 hs
    exact retV C G hs dX8_readPerson_81
  · replace hs := ifT c_8 hs
    refine lv_aload_n hx hb dX8_readPerson_71 rfl (lv_at hl 1 rfl) ?_
    refine lv_iload_n hx hb dX8_readPerson_72 rfl (lv_at hl 2 rfl) ?_
    refine lv_iload_n hx hb dX8_readPerson_73 rfl (lv_at hl 3 rfl) ?_
    refine lv_iload hx hb dX8_readPerson_74 (lv_at hl 4 rfl) ?_
    refine lv_iload hx hb dX8_readPerson_76 (lv_at hl 5 rfl) ?_
    obtain ⟨σ_9, hc, hs⟩ := bvE hs
    refine callVV (ar := 4) (As := [.int x2, .int x3, .int x4, .int x5]) (rest := []) C G hl.1 (ctX4_addPerson _ hk1 hc) ⟨wd_489, wd_490, wd_491, wd_72, wd_492⟩ (by decide +kernel) rfl ⟨rfl, rfl⟩ ⟨Nat.le_of_ble_eq_true rfl, Nat.le_of_ble_eq_true rfl⟩ (kd_lt hk1 (by decide)) (ent_4 b cI cZ cO _ hk1) rfl (Nat.le_of_ble_eq_true rfl) ⟨Nat.le_of_ble_eq_true rfl, Nat.le_of_ble_eq_true rfl⟩ dX8_readPerson_78 rfl (fun H locs G => ?_)
    exact retV C G hs dX8_readPerson_81
def fX8_readPerson_51 (n1 : Nat) (σ : Sg) (x2 : Int32) (x3 : Int32) (x4 : Int32) (x5 : Int32) : Option Sg :=
  bv (fX8_fail σ 2 (σ 1 5)) (fun σ_6 => fX8_readPerson_60 n1 σ_6 x2 x3 x4 x5)
set_option maxRecDepth 100000 in
set_option maxHeartbeats 4000000 in
theorem wX8_readPerson_51 {p : Program} {l : Launch} {e : Env} {s : State} {m : MethodId} {args : Array Value} {below : List Frame} {meth : Method} {c : Code} {D : va_G} {cI cZ cO : ClassId} {b : Nat} (C : Cx p s m args meth c cX8_readPerson RX8 6 none D cI cZ cO) {n1 : Nat} (hk1 : kd n1 = 4) {Rr : Sg} {σ : Sg} {x2 : Int32} {x3 : Int32} {x4 : Int32} {x5 : Int32} {H : Heap} {locs : List Loc} {ls : Array Slot} (hs : fX8_readPerson_51 n1 σ x2 x3 x4 x5 = some Rr) (G : Gd b D cI cZ cO σ s.heap H locs) (hl : lv_has ls 6 [(0, .ref (b + 1)), (1, .ref (b + n1)), (2, .int x2), (3, .int x3), (4, .int x4), (5, .int x5)]) : W p l e rmX8_readPerson s m args below meth c H locs 0 0 (MQ below (QV b D cI cZ cO Rr) args s 0 0 (fun q => b ≤ q)) (F0 m 51 ls []) := by
  have hx := C.1
  have hb := C.2.1
  unfold fX8_readPerson_51 at hs
  refine lv_aload_n hx hb dX8_readPerson_51 rfl (lv_at hl 0 rfl) ?_
  refine lv_iconst (v := 2) hx hb dX8_readPerson_52 (by decide) ?_
  refine lv_aload_n hx hb dX8_readPerson_53 rfl (lv_at hl 0 rfl) ?_
  refine gf_X8_91 C G kd_1 dX8_readPerson_54 ?_
  obtain ⟨σ_6, hc, hs⟩ := bvE hs
  refine callVV (ar := 2) (As := [.int 2, .int (σ 1 5)]) (rest := []) C G hl.1 (ctX8_fail _  hc) ⟨wd_458, wd_460, wd_3, wd_70, wd_461⟩ (by decide +kernel) rfl ⟨rfl, rfl⟩ ⟨Nat.le_of_ble_eq_true rfl, Nat.le_of_ble_eq_true rfl⟩ (kd_lt kd_1 (by decide)) (ent_8 b cI cZ cO _ kd_1) rfl (Nat.le_of_ble_eq_true rfl) ⟨Nat.le_of_ble_eq_true rfl, Nat.le_of_ble_eq_true rfl⟩ dX8_readPerson_57 rfl (fun H locs G => ?_)
  exact wX8_readPerson_60 C hk1  hs G (lv_sub hl [0, 1, 2, 3, 4, 5] rfl)
def fX8_readPerson (n1 : Nat) (σ : Sg) : Option Sg :=
  bi (fX8_readNumber σ 0 3) (fun r_1 σ_1 => bi (fX8_readNumber σ_1 0 ((σ_1 n1 3) - 1)) (fun r_2 σ_2 => bi (fX8_readNumber σ_2 1 9) (fun r_3 σ_3 => bi (fX8_readNumber σ_3 0 9) (fun r_4 σ_4 => (if r_4 = 7 then fX8_readPerson_51 n1 σ_4 r_1 r_2 r_3 r_4 else (if r_4 = 8 then fX8_readPerson_51 n1 σ_4 r_1 r_2 r_3 r_4 else fX8_readPerson_60 n1 σ_4 r_1 r_2 r_3 r_4))))))
set_option maxRecDepth 100000 in
set_option maxHeartbeats 4000000 in
theorem ctX8_readPerson (l : Launch) {n1 : Nat} (hk1 : kd n1 = 4) {D : va_G} {cI cZ cO : ClassId} {b : Nat} {σ : Sg} {Rr : Sg} (hs : fX8_readPerson n1 σ = some Rr) : MV l yX8_readPerson cX8_readPerson 6 rmX8_readPerson [.ref (b + 1), .ref (b + n1)] b D cI cZ cO σ Rr := by
  unfold fX8_readPerson at hs
  refine metV (by decide +kernel) (Nat.le_of_ble_eq_true rfl) (fun p e s m below meth c ls C G hl => ?_)
  have C : Cx p s m _ meth c cX8_readPerson RX8 6 none D cI cZ cO := C
  have hx := C.1
  have hb := C.2.1
  have hl : lv_has ls 6 [(0, .ref (b + 1)), (1, .ref (b + n1))] := hl
  refine lv_aload_n hx hb dX8_readPerson_0 rfl (lv_at hl 0 rfl) ?_
  refine lv_iconst (v := 0) hx hb dX8_readPerson_1 (by decide) ?_
  refine lv_iconst (v := 3) hx hb dX8_readPerson_2 (by decide) ?_
  obtain ⟨r_1, σ_1, hc, hs⟩ := biE hs
  refine callVI (ar := 2) (As := [.int 0, .int 3]) (rest := []) C G hl.1 (ctX8_readNumber _  hc) ⟨wd_466, wd_468, wd_5, wd_70, wd_469⟩ (by decide +kernel) rfl ⟨rfl, rfl⟩ ⟨Nat.le_of_ble_eq_true rfl, Nat.le_of_ble_eq_true rfl⟩ (kd_lt kd_1 (by decide)) (ent_8 b cI cZ cO _ kd_1) rfl (Nat.le_of_ble_eq_true rfl) ⟨Nat.le_of_ble_eq_true rfl, Nat.le_of_ble_eq_true rfl⟩ dX8_readPerson_3 rfl (fun H locs G => ?_)
  refine lv_istore_n (lv' := [(2, .int r_1), (0, .ref (b + 1)), (1, .ref (b + n1))]) hx hb dX8_readPerson_6 rfl hl (by decide) rfl (fun ls hl => ?_)
  refine lv_aload_n hx hb dX8_readPerson_7 rfl (lv_at hl 1 rfl) ?_
  refine lv_iconst (v := 0) hx hb dX8_readPerson_8 (by decide) ?_
  refine lv_aload_n hx hb dX8_readPerson_9 rfl (lv_at hl 2 rfl) ?_
  refine gf_X8_68 C G hk1 dX8_readPerson_10 ?_
  refine lv_iconst (v := 1) hx hb dX8_readPerson_13 (by decide) ?_
  refine lv_isub hx hb dX8_readPerson_14 ?_
  obtain ⟨r_2, σ_2, hc, hs⟩ := biE hs
  refine callVI (ar := 2) (As := [.int 0, .int ((σ_1 n1 3) - 1)]) (rest := []) C G hl.1 (ctX8_readNumber _  hc) ⟨wd_466, wd_468, wd_5, wd_70, wd_469⟩ (by decide +kernel) rfl ⟨rfl, rfl⟩ ⟨Nat.le_of_ble_eq_true rfl, Nat.le_of_ble_eq_true rfl⟩ (kd_lt kd_1 (by decide)) (ent_8 b cI cZ cO _ kd_1) rfl (Nat.le_of_ble_eq_true rfl) ⟨Nat.le_of_ble_eq_true rfl, Nat.le_of_ble_eq_true rfl⟩ dX8_readPerson_15 rfl (fun H locs G => ?_)
  refine lv_istore_n (lv' := [(3, .int r_2), (2, .int r_1), (0, .ref (b + 1)), (1, .ref (b + n1))]) hx hb dX8_readPerson_18 rfl hl (by decide) rfl (fun ls hl => ?_)
  refine lv_aload_n hx hb dX8_readPerson_19 rfl (lv_at hl 2 rfl) ?_
  refine lv_iconst (v := 1) hx hb dX8_readPerson_20 (by decide) ?_
  refine lv_bipush (v := 9) hx hb dX8_readPerson_21 (by decide) ?_
  obtain ⟨r_3, σ_3, hc, hs⟩ := biE hs
  refine callVI (ar := 2) (As := [.int 1, .int 9]) (rest := []) C G hl.1 (ctX8_readNumber _  hc) ⟨wd_466, wd_468, wd_5, wd_70, wd_469⟩ (by decide +kernel) rfl ⟨rfl, rfl⟩ ⟨Nat.le_of_ble_eq_true rfl, Nat.le_of_ble_eq_true rfl⟩ (kd_lt kd_1 (by decide)) (ent_8 b cI cZ cO _ kd_1) rfl (Nat.le_of_ble_eq_true rfl) ⟨Nat.le_of_ble_eq_true rfl, Nat.le_of_ble_eq_true rfl⟩ dX8_readPerson_23 rfl (fun H locs G => ?_)
  refine lv_istore (lv' := [(4, .int r_3), (3, .int r_2), (2, .int r_1), (0, .ref (b + 1)), (1, .ref (b + n1))]) hx hb dX8_readPerson_26 hl (by decide) rfl (fun ls hl => ?_)
  refine lv_aload_n hx hb dX8_readPerson_28 rfl (lv_at hl 3 rfl) ?_
  refine lv_iconst (v := 0) hx hb dX8_readPerson_29 (by decide) ?_
  refine lv_bipush (v := 9) hx hb dX8_readPerson_30 (by decide) ?_
  obtain ⟨r_4, σ_4, hc, hs⟩ := biE hs
  refine callVI (ar := 2) (As := [.int 0, .int 9]) (rest := []) C G hl.1 (ctX8_readNumber _  hc) ⟨wd_466, wd_468, wd_5, wd_70, wd_469⟩ (by decide +kernel) rfl ⟨rfl, rfl⟩ ⟨Nat.le_of_ble_eq_true rfl, Nat.le_of_ble_eq_true rfl⟩ (kd_lt kd_1 (by decide)) (ent_8 b cI cZ cO _ kd_1) rfl (Nat.le_of_ble_eq_true rfl) ⟨Nat.le_of_ble_eq_true rfl, Nat.le_of_ble_eq_true rfl⟩ dX8_readPerson_32 rfl (fun H locs G => ?_)
  refine lv_istore (lv' := [(5, .int r_4), (4, .int r_3), (3, .int r_2), (2, .int r_1), (0, .ref (b + 1)), (1, .ref (b + n1))]) hx hb dX8_readPerson_35 hl (by decide) rfl (fun ls hl => ?_)
  refine lv_iload hx hb dX8_readPerson_37 (lv_at hl 0 rfl) ?_
  refine lv_bipush (v := 7) hx hb dX8_readPerson_39 (by decide) ?_
  refine lv_icmp_eq (tgt := 51) hx hb dX8_readPerson_41 (by decide) (fun c_5 => ?_) (fun c_5 => ?_)
  · replace hs := ifT c_5 hs
    exact wX8_readPerson_51 C hk1  hs G (lv_sub hl [4, 5, 3, 2, 1, 0] rfl)
  · replace hs := ifF c_5 hs
    refine lv_iload hx hb dX8_readPerson_44 (lv_at hl 0 rfl) ?_
    refine lv_bipush (v := 8) hx hb dX8_readPerson_46 (by decide) ?_
    refine lv_icmp_ne (tgt := 60) hx hb dX8_readPerson_48 (by decide) (fun c_10 => ?_) (fun c_10 => ?_)
    · replace hs := ifF c_10 hs
      exact wX8_readPerson_60 C hk1  hs G (lv_sub hl [4, 5, 3, 2, 1, 0] rfl)
    · replace hs := ifT c_10 hs
      exact wX8_readPerson_51 C hk1  hs G (lv_sub hl [4, 5, 3, 2, 1, 0] rfl)
-- X8_readClause
def rmX8_readClause : Room := { frames := 4, cells := 0, slots := 0, locals := 89 }
def fX8_readClause (n1 : Nat) (σ : Sg) : Option Sg :=
  bi (fX8_letter σ) (fun r_1 σ_1 => bi (fX8_faultOfWord n1 σ_1 r_1) (fun r_2 σ_2 => (if r_2 = 0 then lt (st σ_2 1 4 ((σ_2 1 4) + 1)) (fun σ_4 => (if r_1 = 111 then bv (fX8_readOracle n1 σ_4) (fun σ_9 => some σ_9) else (if r_1 = 118 then bv (fX8_readVillage n1 σ_4) (fun σ_8 => some σ_8) else bv (fX8_readPerson n1 σ_4) (fun σ_7 => some σ_7)))) else bv (fX8_fail σ_2 r_2 (σ_2 1 4)) (fun σ_10 => some σ_10))))
set_option maxRecDepth 100000 in
set_option maxHeartbeats 4000000 in
theorem ctX8_readClause (l : Launch) {n1 : Nat} (hk1 : kd n1 = 4) {D : va_G} {cI cZ cO : ClassId} {b : Nat} {σ : Sg} {Rr : Sg} (hs : fX8_readClause n1 σ = some Rr) : MV l yX8_readClause cX8_readClause 4 rmX8_readClause [.ref (b + 1), .ref (b + n1)] b D cI cZ cO σ Rr := by
  unfold fX8_readClause at hs
  refine metV (by decide +kernel) (Nat.le_of_ble_eq_true rfl) (fun p e s m below meth c ls C G hl => ?_)
  have C : Cx p s m _ meth c cX8_readClause RX8 4 none D cI cZ cO := C
  have hx := C.1
  have hb := C.2.1
  have hl : lv_has ls 4 [(0, .ref (b + 1)), (1, .ref (b + n1))] := hl
  refine lv_aload_n hx hb dX8_readClause_0 rfl (lv_at hl 0 rfl) ?_
  obtain ⟨r_1, σ_1, hc, hs⟩ := biE hs
  refine callVI (ar := 0) (As := []) (rest := []) C G hl.1 (ctX8_letter _  hc) ⟨wd_447, wd_449, wd_1, wd_70, wd_450⟩ (by decide +kernel) rfl ⟨rfl, rfl⟩ ⟨Nat.le_of_ble_eq_true rfl, Nat.le_of_ble_eq_true rfl⟩ (kd_lt kd_1 (by decide)) (ent_8 b cI cZ cO _ kd_1) rfl (Nat.le_of_ble_eq_true rfl) ⟨Nat.le_of_ble_eq_true rfl, Nat.le_of_ble_eq_true rfl⟩ dX8_readClause_1 rfl (fun H locs G => ?_)
  refine lv_istore_n (lv' := [(2, .int r_1), (0, .ref (b + 1)), (1, .ref (b + n1))]) hx hb dX8_readClause_4 rfl hl (by decide) rfl (fun ls hl => ?_)
  refine lv_iload_n hx hb dX8_readClause_5 rfl (lv_at hl 0 rfl) ?_
  refine lv_aload_n hx hb dX8_readClause_6 rfl (lv_at hl 2 rfl) ?_
  obtain ⟨r_2, σ_2, hc, hs⟩ := biE hs
  refine callSI (ar := 2) (As := [.int r_1, .ref (b + n1)]) (rest := []) C G hl.1 (ctX8_faultOfWord _ hk1 hc) ⟨wd_455, wd_456, wd_70, wd_457⟩ (by decide +kernel) rfl ⟨rfl, rfl⟩ ⟨Nat.le_of_ble_eq_true rfl, Nat.le_of_ble_eq_true rfl⟩ (Nat.le_of_ble_eq_true rfl) ⟨Nat.le_of_ble_eq_true rfl, Nat.le_of_ble_eq_true rfl⟩ dX8_readClause_7 rfl (fun H locs G => ?_)
  refine lv_istore_n (lv' := [(3, .int r_2), (2, .int r_1), (0, .ref (b + 1)), (1, .ref (b + n1))]) hx hb dX8_readClause_10 rfl hl (by decide) rfl (fun ls hl => ?_)
  refine lv_iload_n hx hb dX8_readClause_11 rfl (lv_at hl 0 rfl) ?_
  refine lv_if_eq (tgt := 25) hx hb dX8_readClause_12 (by decide) (fun c_3 => ?_) (fun c_3 => ?_)
  · replace hs := ifT c_3 hs
    refine lv_aload_n hx hb dX8_readClause_25 rfl (lv_at hl 2 rfl) ?_
    refine lv_dup hx hb dX8_readClause_26 rfl ?_
    refine gf_X8_30 C G kd_1 dX8_readClause_27 ?_
    refine lv_iconst (v := 1) hx hb dX8_readClause_30 (by decide) ?_
    refine lv_iadd hx hb dX8_readClause_31 ?_
    refine pf_X8_30 C G kd_1 hs dX8_readClause_32 (fun σ_4 H locs hs G => ?_)
    refine lv_iload_n hx hb dX8_readClause_35 rfl (lv_at hl 1 rfl) ?_
    refine lv_bipush (v := 111) hx hb dX8_readClause_36 (by decide) ?_
    refine lv_icmp_ne (tgt := 49) hx hb dX8_readClause_38 (by decide) (fun c_5 => ?_) (fun c_5 => ?_)
    · replace hs := ifF c_5 hs
      refine lv_iload_n hx hb dX8_readClause_49 rfl (lv_at hl 1 rfl) ?_
      refine lv_bipush (v := 118) hx hb dX8_readClause_50 (by decide) ?_
      refine lv_icmp_ne (tgt := 63) hx hb dX8_readClause_52 (by decide) (fun c_6 => ?_) (fun c_6 => ?_)
      · replace hs := ifF c_6 hs
        refine lv_aload_n hx hb dX8_readClause_63 rfl (lv_at hl 2 rfl) ?_
        refine lv_aload_n hx hb dX8_readClause_64 rfl (lv_at hl 3 rfl) ?_
        obtain ⟨σ_7, hc, hs⟩ := bvE hs
        refine callVV (ar := 1) (As := [.ref (b + n1)]) (rest := []) C G hl.1 (ctX8_readPerson _ hk1 hc) ⟨wd_485, wd_487, wd_8, wd_70, wd_488⟩ (by decide +kernel) rfl ⟨rfl, rfl⟩ ⟨Nat.le_of_ble_eq_true rfl, Nat.le_of_ble_eq_true rfl⟩ (kd_lt kd_1 (by decide)) (ent_8 b cI cZ cO _ kd_1) rfl (Nat.le_of_ble_eq_true rfl) ⟨Nat.le_of_ble_eq_true rfl, Nat.le_of_ble_eq_true rfl⟩ dX8_readClause_65 rfl (fun H locs G => ?_)
        exact retV C G hs dX8_readClause_68
      · replace hs := ifT c_6 hs
        refine lv_aload_n hx hb dX8_readClause_55 rfl (lv_at hl 2 rfl) ?_
        refine lv_aload_n hx hb dX8_readClause_56 rfl (lv_at hl 3 rfl) ?_
        obtain ⟨σ_8, hc, hs⟩ := bvE hs
        refine callVV (ar := 1) (As := [.ref (b + n1)]) (rest := []) C G hl.1 (ctX8_readVillage _ hk1 hc) ⟨wd_477, wd_479, wd_7, wd_70, wd_480⟩ (by decide +kernel) rfl ⟨rfl, rfl⟩ ⟨Nat.le_of_ble_eq_true rfl, Nat.le_of_ble_eq_true rfl⟩ (kd_lt kd_1 (by decide)) (ent_8 b cI cZ cO _ kd_1) rfl (Nat.le_of_ble_eq_true rfl) ⟨Nat.le_of_ble_eq_true rfl, Nat.le_of_ble_eq_true rfl⟩ dX8_readClause_57 rfl (fun H locs G => ?_)
        refine lv_goto (tgt := 68) hx hb dX8_readClause_60 (by decide) ?_
        exact retV C G hs dX8_readClause_68
    · replace hs := ifT c_5 hs
      refine lv_aload_n hx hb dX8_readClause_41 rfl (lv_at hl 2 rfl) ?_
      refine lv_aload_n hx hb dX8_readClause_42 rfl (lv_at hl 3 rfl) ?_
      obtain ⟨σ_9, hc, hs⟩ := bvE hs
      refine callVV (ar := 1) (As := [.ref (b + n1)]) (rest := []) C G hl.1 (ctX8_readOracle _ hk1 hc) ⟨wd_462, wd_464, wd_4, wd_70, wd_465⟩ (by decide +kernel) rfl ⟨rfl, rfl⟩ ⟨Nat.le_of_ble_eq_true rfl, Nat.le_of_ble_eq_true rfl⟩ (kd_lt kd_1 (by decide)) (ent_8 b cI cZ cO _ kd_1) rfl (Nat.le_of_ble_eq_true rfl) ⟨Nat.le_of_ble_eq_true rfl, Nat.le_of_ble_eq_true rfl⟩ dX8_readClause_43 rfl (fun H locs G => ?_)
      refine lv_goto (tgt := 68) hx hb dX8_readClause_46 (by decide) ?_
      exact retV C G hs dX8_readClause_68
  · replace hs := ifF c_3 hs
    refine lv_aload_n hx hb dX8_readClause_15 rfl (lv_at hl 2 rfl) ?_
    refine lv_iload_n hx hb dX8_readClause_16 rfl (lv_at hl 0 rfl) ?_
    refine lv_aload_n hx hb dX8_readClause_17 rfl (lv_at hl 2 rfl) ?_
    refine gf_X8_30 C G kd_1 dX8_readClause_18 ?_
    obtain ⟨σ_10, hc, hs⟩ := bvE hs
    refine callVV (ar := 2) (As := [.int r_2, .int (σ_2 1 4)]) (rest := []) C G hl.1 (ctX8_fail _  hc) ⟨wd_458, wd_460, wd_3, wd_70, wd_461⟩ (by decide +kernel) rfl ⟨rfl, rfl⟩ ⟨Nat.le_of_ble_eq_true rfl, Nat.le_of_ble_eq_true rfl⟩ (kd_lt kd_1 (by decide)) (ent_8 b cI cZ cO _ kd_1) rfl (Nat.le_of_ble_eq_true rfl) ⟨Nat.le_of_ble_eq_true rfl, Nat.le_of_ble_eq_true rfl⟩ dX8_readClause_21 rfl (fun H locs G => ?_)
    exact retV C G hs dX8_readClause_24
-- X8_read
def rmX8_read : Room := { frames := 5, cells := 0, slots := 0, locals := 112 }
def fX8_read_25b (n1 : Nat) (kh : Sg → Int32 → Option Sg) (kx : Sg → Option Sg) (σ : Sg) (x2 : Int32) : Option Sg :=
  (if 240 ≤ x2 then kx σ else (if (σ 1 1) ≤ (σ 1 4) then kx σ else (if (σ 1 2) = 0 then bv (fX8_readClause n1 σ) (fun σ_9 => bv (fX8_skipBlanks σ_9) (fun σ_10 => lt (x2 + 1) (fun x2_11 => kh σ_10 x2_11))) else kx σ)))
set_option maxRecDepth 100000 in
set_option maxHeartbeats 4000000 in
theorem wX8_read_25b {p : Program} {l : Launch} {e : Env} {s : State} {m : MethodId} {args : Array Value} {below : List Frame} {meth : Method} {c : Code} {D : va_G} {cI cZ cO : ClassId} {b : Nat} (C : Cx p s m args meth c cX8_read RX8 3 none D cI cZ cO) {n1 : Nat} (hk1 : kd n1 = 4) {Rr : Sg} {kh : Sg → Int32 → Option Sg} {kx : Sg → Option Sg} (hh : ∀ (σ : Sg) (x2 : Int32) (H : Heap) (locs : List Loc) (ls : Array Slot), kh σ x2 = some Rr → Gd b D cI cZ cO σ s.heap H locs → lv_has ls 3 [(0, .ref (b + 1)), (1, .ref (b + n1)), (2, .int x2)] → W p l e rmX8_read s m args below meth c H locs 0 0 (MQ below (QV b D cI cZ cO Rr) args s 0 0 (fun q => b ≤ q)) (F0 m 25 ls [])) (hxx : ∀ (σ : Sg) (H : Heap) (locs : List Loc) (ls : Array Slot), kx σ = some Rr → Gd b D cI cZ cO σ s.heap H locs → lv_has ls 3 [(0, .ref (b + 1)), (1, .ref (b + n1))] → W p l e rmX8_read s m args below meth c H locs 0 0 (MQ below (QV b D cI cZ cO Rr) args s 0 0 (fun q => b ≤ q)) (F0 m 65 ls [])) {σ : Sg} {x2 : Int32} {H : Heap} {locs : List Loc} {ls : Array Slot} (hs : fX8_read_25b n1 kh kx σ x2 = some Rr) (G : Gd b D cI cZ cO σ s.heap H locs) (hl : lv_has ls 3 [(0, .ref (b + 1)), (1, .ref (b + n1)), (2, .int x2)]) : W p l e rmX8_read s m args below meth c H locs 0 0 (MQ below (QV b D cI cZ cO Rr) args s 0 0 (fun q => b ≤ q)) (F0 m 25 ls []) := by
  have hx := C.1
  have hb := C.2.1
  unfold fX8_read_25b at hs
  refine lv_iload_n hx hb dX8_read_25 rfl (lv_at hl 2 rfl) ?_
  refine lv_sipush (v := 240) hx hb dX8_read_26 (by decide) ?_
  refine lv_icmp_ge (tgt := 65) hx hb dX8_read_29 (by decide) (fun c_6 => ?_) (fun c_6 => ?_)
  · replace hs := ifT c_6 hs
    exact hxx _ _ _ _ hs G (lv_sub hl [0, 1] rfl)
  · replace hs := ifF c_6 hs
    refine lv_aload_n hx hb dX8_read_32 rfl (lv_at hl 0 rfl) ?_
    refine gf_X8_30 C G kd_1 dX8_read_33 ?_
    refine lv_aload_n hx hb dX8_read_36 rfl (lv_at hl 0 rfl) ?_
    refine gf_X8_19 C G kd_1 dX8_read_37 ?_
    refine lv_icmp_ge (tgt := 65) hx hb dX8_read_40 (by decide) (fun c_7 => ?_) (fun c_7 => ?_)
    · replace hs := ifT c_7 hs
      exact hxx _ _ _ _ hs G (lv_sub hl [0, 1] rfl)
    · replace hs := ifF c_7 hs
      refine lv_aload_n hx hb dX8_read_43 rfl (lv_at hl 0 rfl) ?_
      refine gf_X8_27 C G kd_1 dX8_read_44 ?_
      refine lv_if_ne (tgt := 65) hx hb dX8_read_47 (by decide) (fun c_8 => ?_) (fun c_8 => ?_)
      · replace hs := ifF c_8 hs
        exact hxx _ _ _ _ hs G (lv_sub hl [0, 1] rfl)
      · replace hs := ifT c_8 hs
        refine lv_aload_n hx hb dX8_read_50 rfl (lv_at hl 0 rfl) ?_
        refine lv_aload_n hx hb dX8_read_51 rfl (lv_at hl 1 rfl) ?_
        obtain ⟨σ_9, hc, hs⟩ := bvE hs
        refine callVV (ar := 1) (As := [.ref (b + n1)]) (rest := []) C G hl.1 (ctX8_readClause _ hk1 hc) ⟨wd_451, wd_453, wd_2, wd_70, wd_454⟩ (by decide +kernel) rfl ⟨rfl, rfl⟩ ⟨Nat.le_of_ble_eq_true rfl, Nat.le_of_ble_eq_true rfl⟩ (kd_lt kd_1 (by decide)) (ent_8 b cI cZ cO _ kd_1) rfl (Nat.le_of_ble_eq_true rfl) ⟨Nat.le_of_ble_eq_true rfl, Nat.le_of_ble_eq_true rfl⟩ dX8_read_52 rfl (fun H locs G => ?_)
        refine lv_aload_n hx hb dX8_read_55 rfl (lv_at hl 0 rfl) ?_
        obtain ⟨σ_10, hc, hs⟩ := bvE hs
        refine callVV (ar := 0) (As := []) (rest := []) C G hl.1 (ctX8_skipBlanks _  hc) ⟨wd_443, wd_445, wd_0, wd_70, wd_446⟩ (by decide +kernel) rfl ⟨rfl, rfl⟩ ⟨Nat.le_of_ble_eq_true rfl, Nat.le_of_ble_eq_true rfl⟩ (kd_lt kd_1 (by decide)) (ent_8 b cI cZ cO _ kd_1) rfl (Nat.le_of_ble_eq_true rfl) ⟨Nat.le_of_ble_eq_true rfl, Nat.le_of_ble_eq_true rfl⟩ dX8_read_56 rfl (fun H locs G => ?_)
        obtain ⟨x2_11, e_11, hs⟩ := ltE hs
        refine lv_iinc (v := x2_11) (lv' := [(2, .int x2_11), (0, .ref (b + 1)), (1, .ref (b + n1))]) hx hb dX8_read_59 hl (k := 2) rfl (by rw [e_11]; rfl) (by decide) rfl (fun ls hl => ?_)
        refine lv_goto (tgt := 25) hx hb dX8_read_62 (by decide) ?_
        exact hh _ _ _ _ _ hs G (lv_sub hl [1, 2, 0] rfl)
def fX8_read_25 (n1 : Nat) : Nat → (Sg → Option Sg) → Sg → Int32 → Option Sg
  | 0, _, _, _ => none
  | fu + 1, kx, σ, x2 => fX8_read_25b n1 (fX8_read_25 n1 fu kx) kx σ x2
theorem fX8_read_25_s (n1 : Nat) (fu : Nat) (kx : Sg → Option Sg) (σ : Sg) (x2 : Int32) : fX8_read_25 n1 (fu + 1) kx σ x2 = fX8_read_25b n1 (fX8_read_25 n1 fu kx) kx σ x2 := by rw [fX8_read_25]
theorem wX8_read_25 {p : Program} {l : Launch} {e : Env} {s : State} {m : MethodId} {args : Array Value} {below : List Frame} {meth : Method} {c : Code} {D : va_G} {cI cZ cO : ClassId} {b : Nat} (C : Cx p s m args meth c cX8_read RX8 3 none D cI cZ cO) {n1 : Nat} (hk1 : kd n1 = 4) {Rr : Sg} {kx : Sg → Option Sg} (hxx : ∀ (σ : Sg) (H : Heap) (locs : List Loc) (ls : Array Slot), kx σ = some Rr → Gd b D cI cZ cO σ s.heap H locs → lv_has ls 3 [(0, .ref (b + 1)), (1, .ref (b + n1))] → W p l e rmX8_read s m args below meth c H locs 0 0 (MQ below (QV b D cI cZ cO Rr) args s 0 0 (fun q => b ≤ q)) (F0 m 65 ls [])) : ∀ (fu : Nat) (σ : Sg) (x2 : Int32) (H : Heap) (locs : List Loc) (ls : Array Slot), fX8_read_25 n1 fu kx σ x2 = some Rr → Gd b D cI cZ cO σ s.heap H locs → lv_has ls 3 [(0, .ref (b + 1)), (1, .ref (b + n1)), (2, .int x2)] → W p l e rmX8_read s m args below meth c H locs 0 0 (MQ below (QV b D cI cZ cO Rr) args s 0 0 (fun q => b ≤ q)) (F0 m 25 ls []) := by
  intro fu
  induction fu with
  | zero => intro σ x2 H locs ls hs; cases hs
  | succ fu ih =>
    intro σ x2 H locs ls hs G hl
    exact wX8_read_25b C hk1 (fun σ x2 H locs ls hs G hl => ih σ x2 H locs ls hs G hl) hxx hs G hl
def fX8_read_65 (n1 : Nat) (σ : Sg) : Option Sg :=
  bv (fX4_settleFrom n1 σ) (fun σ_13 => lt (st σ_13 1 1 0) (fun σ_14 => some σ_14))
set_option maxRecDepth 100000 in
set_option maxHeartbeats 4000000 in
theorem wX8_read_65 {p : Program} {l : Launch} {e : Env} {s : State} {m : MethodId} {args : Array Value} {below : List Frame} {meth : Method} {c : Code} {D : va_G} {cI cZ cO : ClassId} {b : Nat} (C : Cx p s m args meth c cX8_read RX8 3 none D cI cZ cO) {n1 : Nat} (hk1 : kd n1 = 4) {Rr : Sg} {σ : Sg} {H : Heap} {locs : List Loc} {ls : Array Slot} (hs : fX8_read_65 n1 σ = some Rr) (G : Gd b D cI cZ cO σ s.heap H locs) (hl : lv_has ls 3 [(0, .ref (b + 1)), (1, .ref (b + n1))]) : W p l e rmX8_read s m args below meth c H locs 0 0 (MQ below (QV b D cI cZ cO Rr) args s 0 0 (fun q => b ≤ q)) (F0 m 65 ls []) := by
  have hx := C.1
  have hb := C.2.1
  unfold fX8_read_65 at hs
  refine lv_aload_n hx hb dX8_read_65 rfl (lv_at hl 1 rfl) ?_
  obtain ⟨σ_13, hc, hs⟩ := bvE hs
  refine callVV (ar := 0) (As := []) (rest := []) C G hl.1 (ctX4_settleFrom _ hk1 hc) ⟨wd_493, wd_494, wd_495, wd_72, wd_496⟩ (by decide +kernel) rfl ⟨rfl, rfl⟩ ⟨Nat.le_of_ble_eq_true rfl, Nat.le_of_ble_eq_true rfl⟩ (kd_lt hk1 (by decide)) (ent_4 b cI cZ cO _ hk1) rfl (Nat.le_of_ble_eq_true rfl) ⟨Nat.le_of_ble_eq_true rfl, Nat.le_of_ble_eq_true rfl⟩ dX8_read_66 rfl (fun H locs G => ?_)
  refine lv_aload_n hx hb dX8_read_69 rfl (lv_at hl 0 rfl) ?_
  refine lv_iconst (v := 0) hx hb dX8_read_70 (by decide) ?_
  refine pf_X8_19 C G kd_1 hs dX8_read_71 (fun σ_14 H locs hs G => ?_)
  exact retV C G hs dX8_read_74
def fX8_read (n1 : Nat) (σ : Sg) : Option Sg :=
  bv (fX4_clear n1 σ) (fun σ_1 => lt (st σ_1 1 2 0) (fun σ_2 => lt (st σ_2 1 3 (-1)) (fun σ_3 => lt (st σ_3 1 4 0) (fun σ_4 => bv (fX8_skipBlanks σ_4) (fun σ_5 => fX8_read_25 n1 FU (fun σ_12 => fX8_read_65 n1 σ_12) σ_5 0)))))
set_option maxRecDepth 100000 in
set_option maxHeartbeats 4000000 in
theorem ctX8_read (l : Launch) {n1 : Nat} (hk1 : kd n1 = 4) {D : va_G} {cI cZ cO : ClassId} {b : Nat} {σ : Sg} {Rr : Sg} (hs : fX8_read n1 σ = some Rr) : MV l yX8_read cX8_read 3 rmX8_read [.ref (b + 1), .ref (b + n1)] b D cI cZ cO σ Rr := by
  unfold fX8_read at hs
  refine metV (by decide +kernel) (Nat.le_of_ble_eq_true rfl) (fun p e s m below meth c ls C G hl => ?_)
  have C : Cx p s m _ meth c cX8_read RX8 3 none D cI cZ cO := C
  have hx := C.1
  have hb := C.2.1
  have hl : lv_has ls 3 [(0, .ref (b + 1)), (1, .ref (b + n1))] := hl
  refine lv_aload_n hx hb dX8_read_0 rfl (lv_at hl 1 rfl) ?_
  obtain ⟨σ_1, hc, hs⟩ := bvE hs
  refine callVV (ar := 0) (As := []) (rest := []) C G hl.1 (ctX4_clear _ hk1 hc) ⟨wd_436, wd_437, wd_438, wd_72, wd_439⟩ (by decide +kernel) rfl ⟨rfl, rfl⟩ ⟨Nat.le_of_ble_eq_true rfl, Nat.le_of_ble_eq_true rfl⟩ (kd_lt hk1 (by decide)) (ent_4 b cI cZ cO _ hk1) rfl (Nat.le_of_ble_eq_true rfl) ⟨Nat.le_of_ble_eq_true rfl, Nat.le_of_ble_eq_true rfl⟩ dX8_read_1 rfl (fun H locs G => ?_)
  refine lv_aload_n hx hb dX8_read_4 rfl (lv_at hl 0 rfl) ?_
  refine lv_iconst (v := 0) hx hb dX8_read_5 (by decide) ?_
  refine pf_X8_27 C G kd_1 hs dX8_read_6 (fun σ_2 H locs hs G => ?_)
  refine lv_aload_n hx hb dX8_read_9 rfl (lv_at hl 0 rfl) ?_
  refine lv_iconst (v := (-1)) hx hb dX8_read_10 (by decide) ?_
  refine pf_X8_15 C G kd_1 hs dX8_read_11 (fun σ_3 H locs hs G => ?_)
  refine lv_aload_n hx hb dX8_read_14 rfl (lv_at hl 0 rfl) ?_
  refine lv_iconst (v := 0) hx hb dX8_read_15 (by decide) ?_
  refine pf_X8_30 C G kd_1 hs dX8_read_16 (fun σ_4 H locs hs G => ?_)
  refine lv_aload_n hx hb dX8_read_19 rfl (lv_at hl 0 rfl) ?_
  obtain ⟨σ_5, hc, hs⟩ := bvE hs
  refine callVV (ar := 0) (As := []) (rest := []) C G hl.1 (ctX8_skipBlanks _  hc) ⟨wd_443, wd_445, wd_0, wd_70, wd_446⟩ (by decide +kernel) rfl ⟨rfl, rfl⟩ ⟨Nat.le_of_ble_eq_true rfl, Nat.le_of_ble_eq_true rfl⟩ (kd_lt kd_1 (by decide)) (ent_8 b cI cZ cO _ kd_1) rfl (Nat.le_of_ble_eq_true rfl) ⟨Nat.le_of_ble_eq_true rfl, Nat.le_of_ble_eq_true rfl⟩ dX8_read_20 rfl (fun H locs G => ?_)
  refine lv_iconst (v := 0) hx hb dX8_read_23 (by decide) ?_
  refine lv_istore_n (lv' := [(2, .int 0), (0, .ref (b + 1)), (1, .ref (b + n1))]) hx hb dX8_read_24 rfl hl (by decide) rfl (fun ls hl => ?_)
  refine wX8_read_25 C hk1 (fun σ_12 H locs ls hs G hl => ?_) FU _ _ _ _ _ hs G (lv_sub hl [1, 2, 0] rfl)
  exact wX8_read_65 C hk1  hs G (lv_sub hl [0, 1] rfl)
-- X9_add
def rmX9_add : Room := { frames := 1, cells := 0, slots := 0, locals := 30 }
def fX9_add (n2 : Nat) (σ : Sg) (x1 : Int32) : Option Sg :=
  (if (σ 114 0) < 6 then (if inb (σ 114 0) 6 then lt (st σ 115 (σ 114 0).toNatClampNeg x1) (fun σ_2 => (if ¬ (0 : Int32) < 0 ∧ ¬ ((σ_2 114 0) * 4) < 0 ∧ ¬ (4 : Int32) < 0 ∧ (0 : Int32).toNatClampNeg + (4 : Int32).toNatClampNeg ≤ (ln n2) ∧ ((σ_2 114 0) * 4).toNatClampNeg + (4 : Int32).toNatClampNeg ≤ 24 then lt (sr σ_2 116 (va_cpy (σ_2 n2) (σ_2 116) (0 : Int32).toNatClampNeg ((σ_2 114 0) * 4).toNatClampNeg (4 : Int32).toNatClampNeg)) (fun σ_3 => lt (st σ_3 114 0 ((σ_3 114 0) + 1)) (fun σ_4 => some σ_4)) else none)) else none) else some σ)
set_option maxRecDepth 100000 in
set_option maxHeartbeats 4000000 in
theorem ctX9_add (l : Launch) {n2 : Nat} (hk2 : kd n2 = 13) {D : va_G} {cI cZ cO : ClassId} {b : Nat} {σ : Sg} {x1 : Int32} {Rr : Sg} (hs : fX9_add n2 σ x1 = some Rr) : MV l yX9_add cX9_add 3 rmX9_add [.ref (b + 114), .int x1, .ref (b + n2)] b D cI cZ cO σ Rr := by
  unfold fX9_add at hs
  refine metV (by decide +kernel) (Nat.le_of_ble_eq_true rfl) (fun p e s m below meth c ls C G hl => ?_)
  have C : Cx p s m _ meth c cX9_add RX9 3 none D cI cZ cO := C
  have hx := C.1
  have hb := C.2.1
  have hl : lv_has ls 3 [(0, .ref (b + 114)), (1, .int x1), (2, .ref (b + n2))] := hl
  refine lv_aload_n hx hb dX9_add_0 rfl (lv_at hl 0 rfl) ?_
  refine gf_X9_18 C G kd_114 dX9_add_1 ?_
  refine lv_bipush (v := 6) hx hb dX9_add_4 (by decide) ?_
  refine lv_icmp_lt (tgt := 10) hx hb dX9_add_6 (by decide) (fun c_1 => ?_) (fun c_1 => ?_)
  · replace hs := ifT c_1 hs
    refine lv_aload_n hx hb dX9_add_10 rfl (lv_at hl 0 rfl) ?_
    refine gf_X9_9 C G kd_114 (n' := 115) rfl dX9_add_11 ?_
    refine lv_aload_n hx hb dX9_add_14 rfl (lv_at hl 0 rfl) ?_
    refine gf_X9_18 C G kd_114 dX9_add_15 ?_
    refine lv_iload_n hx hb dX9_add_18 rfl (lv_at hl 1 rfl) ?_
    obtain ⟨g_2, hs⟩ := gdE hs
    refine m_iast C G kd_115 ln_115 g_2 hs dX9_add_19 (fun σ_2 H locs hs G => ?_)
    refine lv_aload_n hx hb dX9_add_20 rfl (lv_at hl 2 rfl) ?_
    refine lv_iconst (v := 0) hx hb dX9_add_21 (by decide) ?_
    refine lv_aload_n hx hb dX9_add_22 rfl (lv_at hl 0 rfl) ?_
    refine gf_X9_15 C G kd_114 (n' := 116) rfl dX9_add_23 ?_
    refine lv_aload_n hx hb dX9_add_26 rfl (lv_at hl 0 rfl) ?_
    refine gf_X9_18 C G kd_114 dX9_add_27 ?_
    refine lv_iconst (v := 4) hx hb dX9_add_30 (by decide) ?_
    refine lv_imul hx hb dX9_add_31 ?_
    refine lv_iconst (v := 4) hx hb dX9_add_32 (by decide) ?_
    obtain ⟨g_3, hs⟩ := gdE hs
    refine m_copy C G hl.1 hk2 kd_116 rfl ln_116 wd_829 g_3 hs (Nat.le_of_ble_eq_true rfl) (Nat.le_of_ble_eq_true rfl) dX9_add_33 (fun σ_3 H locs hs G => ?_)
    refine lv_aload_n hx hb dX9_add_36 rfl (lv_at hl 0 rfl) ?_
    refine lv_dup hx hb dX9_add_37 rfl ?_
    refine gf_X9_18 C G kd_114 dX9_add_38 ?_
    refine lv_iconst (v := 1) hx hb dX9_add_41 (by decide) ?_
    refine lv_iadd hx hb dX9_add_42 ?_
    refine pf_X9_18 C G kd_114 hs dX9_add_43 (fun σ_4 H locs hs G => ?_)
    exact retV C G hs dX9_add_46
  · replace hs := ifF c_1 hs
    exact retV C G hs dX9_add_9
-- X9_setsOf
def rmX9_setsOf : Room := { frames := 0, cells := 0, slots := 0, locals := 0 }
def fX9_setsOf (n0 : Nat) (σ : Sg) : Option (Int32 × Sg) :=
  (if (σ n0 0) = 0 then some (0, σ) else some (((1 : Int32) <<< ((σ n0 3) &&& 31)), σ))
set_option maxRecDepth 100000 in
set_option maxHeartbeats 4000000 in
theorem ctX9_setsOf (l : Launch) {n0 : Nat} (hk0 : kd n0 = 4) {D : va_G} {cI cZ cO : ClassId} {b : Nat} {σ : Sg} {Rr : (Int32 × Sg)} (hs : fX9_setsOf n0 σ = some Rr) : MI l yX9_setsOf cX9_setsOf 1 (some .int) rmX9_setsOf [.ref (b + n0)] b D cI cZ cO σ Rr := by
  unfold fX9_setsOf at hs
  refine metI (by decide +kernel) (Nat.le_of_ble_eq_true rfl) (fun p e s m below meth c ls C G hl => ?_)
  have C : Cx p s m _ meth c cX9_setsOf RX9 1 (some .int) D cI cZ cO := C
  have hx := C.1
  have hb := C.2.1
  have hl : lv_has ls 1 [(0, .ref (b + n0))] := hl
  refine lv_aload_n hx hb dX9_setsOf_0 rfl (lv_at hl 0 rfl) ?_
  refine gf_X9_28 C G hk0 dX9_setsOf_1 ?_
  refine lv_if_eq (tgt := 16) hx hb dX9_setsOf_4 (by decide) (fun c_1 => ?_) (fun c_1 => ?_)
  · replace hs := ifT c_1 hs
    refine lv_iconst (v := 0) hx hb dX9_setsOf_16 (by decide) ?_
    exact retI C G hs dX9_setsOf_17
  · replace hs := ifF c_1 hs
    refine lv_iconst (v := 1) hx hb dX9_setsOf_7 (by decide) ?_
    refine lv_aload_n hx hb dX9_setsOf_8 rfl (lv_at hl 0 rfl) ?_
    refine gf_X9_34 C G hk0 dX9_setsOf_9 ?_
    refine lv_ishl hx hb dX9_setsOf_12 ?_
    refine lv_goto (tgt := 17) hx hb dX9_setsOf_13 (by decide) ?_
    exact retI C G hs dX9_setsOf_17
-- X9_takenBy
def rmX9_takenBy : Room := { frames := 0, cells := 0, slots := 0, locals := 0 }
def fX9_takenBy_34 (kh : Sg → Int32 → Int32 → Int32 → Int32 → Option (Int32 × Sg)) (kx : Sg → Int32 → Option (Int32 × Sg)) (σ : Sg) (x1 : Int32) (x2 : Int32) (x3 : Int32) (x4 : Int32) : Option (Int32 × Sg) :=
  lt (x4 + 1) (fun x4_3 => kh σ x1 x2 x3 x4_3)
set_option maxRecDepth 100000 in
set_option maxHeartbeats 4000000 in
theorem wX9_takenBy_34 {p : Program} {l : Launch} {e : Env} {s : State} {m : MethodId} {args : Array Value} {below : List Frame} {meth : Method} {c : Code} {D : va_G} {cI cZ cO : ClassId} {b : Nat} (C : Cx p s m args meth c cX9_takenBy RX9 5 (some .int) D cI cZ cO) {Rr : (Int32 × Sg)} {kh : Sg → Int32 → Int32 → Int32 → Int32 → Option (Int32 × Sg)} {kx : Sg → Int32 → Option (Int32 × Sg)} (hh : ∀ (σ : Sg) (x1 : Int32) (x2 : Int32) (x3 : Int32) (x4 : Int32) (H : Heap) (locs : List Loc) (ls : Array Slot), kh σ x1 x2 x3 x4 = some Rr → Gd b D cI cZ cO σ s.heap H locs → lv_has ls 5 [(0, .ref (b + 114)), (1, .int x1), (2, .int x2), (3, .int x3), (4, .int x4)] → W p l e rmX9_takenBy s m args below meth c H locs 0 0 (MQ below (QI b D cI cZ cO Rr) args s 0 0 (fun q => b ≤ q)) (F0 m 5 ls [])) (hxx : ∀ (σ : Sg) (x3 : Int32) (H : Heap) (locs : List Loc) (ls : Array Slot), kx σ x3 = some Rr → Gd b D cI cZ cO σ s.heap H locs → lv_has ls 5 [(3, .int x3)] → W p l e rmX9_takenBy s m args below meth c H locs 0 0 (MQ below (QI b D cI cZ cO Rr) args s 0 0 (fun q => b ≤ q)) (F0 m 40 ls [])) {σ : Sg} {x1 : Int32} {x2 : Int32} {x3 : Int32} {x4 : Int32} {H : Heap} {locs : List Loc} {ls : Array Slot} (hs : fX9_takenBy_34 kh kx σ x1 x2 x3 x4 = some Rr) (G : Gd b D cI cZ cO σ s.heap H locs) (hl : lv_has ls 5 [(0, .ref (b + 114)), (1, .int x1), (2, .int x2), (3, .int x3), (4, .int x4)]) : W p l e rmX9_takenBy s m args below meth c H locs 0 0 (MQ below (QI b D cI cZ cO Rr) args s 0 0 (fun q => b ≤ q)) (F0 m 34 ls []) := by
  have hx := C.1
  have hb := C.2.1
  unfold fX9_takenBy_34 at hs
  obtain ⟨x4_3, e_3, hs⟩ := ltE hs
  refine lv_iinc (v := x4_3) (lv' := [(4, .int x4_3), (0, .ref (b + 114)), (1, .int x1), (2, .int x2), (3, .int x3)]) hx hb dX9_takenBy_34 hl (k := 4) rfl (by rw [e_3]; rfl) (by decide) rfl (fun ls hl => ?_)
  refine lv_goto (tgt := 5) hx hb dX9_takenBy_37 (by decide) ?_
  exact hh _ _ _ _ _ _ _ _ hs G (lv_sub hl [1, 2, 3, 4, 0] rfl)
def fX9_takenBy_5b (kh : Sg → Int32 → Int32 → Int32 → Int32 → Option (Int32 × Sg)) (kx : Sg → Int32 → Option (Int32 × Sg)) (σ : Sg) (x1 : Int32) (x2 : Int32) (x3 : Int32) (x4 : Int32) : Option (Int32 × Sg) :=
  (if 4 ≤ x4 then kx σ x3 else (if ((x1 >>> (x4 &&& 31)) &&& 1) = 0 then fX9_takenBy_34 kh kx σ x1 x2 x3 x4 else (if inb ((x2 * 4) + x4) 24 then lt (x3 + (σ 116 ((x2 * 4) + x4).toNatClampNeg)) (fun x3_5 => fX9_takenBy_34 kh kx σ x1 x2 x3_5 x4) else none)))
set_option maxRecDepth 100000 in
set_option maxHeartbeats 4000000 in
theorem wX9_takenBy_5b {p : Program} {l : Launch} {e : Env} {s : State} {m : MethodId} {args : Array Value} {below : List Frame} {meth : Method} {c : Code} {D : va_G} {cI cZ cO : ClassId} {b : Nat} (C : Cx p s m args meth c cX9_takenBy RX9 5 (some .int) D cI cZ cO) {Rr : (Int32 × Sg)} {kh : Sg → Int32 → Int32 → Int32 → Int32 → Option (Int32 × Sg)} {kx : Sg → Int32 → Option (Int32 × Sg)} (hh : ∀ (σ : Sg) (x1 : Int32) (x2 : Int32) (x3 : Int32) (x4 : Int32) (H : Heap) (locs : List Loc) (ls : Array Slot), kh σ x1 x2 x3 x4 = some Rr → Gd b D cI cZ cO σ s.heap H locs → lv_has ls 5 [(0, .ref (b + 114)), (1, .int x1), (2, .int x2), (3, .int x3), (4, .int x4)] → W p l e rmX9_takenBy s m args below meth c H locs 0 0 (MQ below (QI b D cI cZ cO Rr) args s 0 0 (fun q => b ≤ q)) (F0 m 5 ls [])) (hxx : ∀ (σ : Sg) (x3 : Int32) (H : Heap) (locs : List Loc) (ls : Array Slot), kx σ x3 = some Rr → Gd b D cI cZ cO σ s.heap H locs → lv_has ls 5 [(3, .int x3)] → W p l e rmX9_takenBy s m args below meth c H locs 0 0 (MQ below (QI b D cI cZ cO Rr) args s 0 0 (fun q => b ≤ q)) (F0 m 40 ls [])) {σ : Sg} {x1 : Int32} {x2 : Int32} {x3 : Int32} {x4 : Int32} {H : Heap} {locs : List Loc} {ls : Array Slot} (hs : fX9_takenBy_5b kh kx σ x1 x2 x3 x4 = some Rr) (G : Gd b D cI cZ cO σ s.heap H locs) (hl : lv_has ls 5 [(0, .ref (b + 114)), (1, .int x1), (2, .int x2), (3, .int x3), (4, .int x4)]) : W p l e rmX9_takenBy s m args below meth c H locs 0 0 (MQ below (QI b D cI cZ cO Rr) args s 0 0 (fun q => b ≤ q)) (F0 m 5 ls []) := by
  have hx := C.1
  have hb := C.2.1
  unfold fX9_takenBy_5b at hs
  refine lv_iload hx hb dX9_takenBy_5 (lv_at hl 4 rfl) ?_
  refine lv_iconst (v := 4) hx hb dX9_takenBy_7 (by decide) ?_
  refine lv_icmp_ge (tgt := 40) hx hb dX9_takenBy_8 (by decide) (fun c_1 => ?_) (fun c_1 => ?_)
  · replace hs := ifT c_1 hs
    exact hxx _ _ _ _ _ hs G (lv_sub hl [3] rfl)
  · replace hs := ifF c_1 hs
    refine lv_iload_n hx hb dX9_takenBy_11 rfl (lv_at hl 1 rfl) ?_
    refine lv_iload hx hb dX9_takenBy_12 (lv_at hl 4 rfl) ?_
    refine lv_ishr hx hb dX9_takenBy_14 ?_
    refine lv_iconst (v := 1) hx hb dX9_takenBy_15 (by decide) ?_
    refine lv_iand hx hb dX9_takenBy_16 ?_
    refine lv_if_eq (tgt := 34) hx hb dX9_takenBy_17 (by decide) (fun c_2 => ?_) (fun c_2 => ?_)
    · replace hs := ifT c_2 hs
      exact wX9_takenBy_34 C  hh hxx hs G (lv_sub hl [0, 1, 2, 3, 4] rfl)
    · replace hs := ifF c_2 hs
      refine lv_iload_n hx hb dX9_takenBy_20 rfl (lv_at hl 3 rfl) ?_
      refine lv_aload_n hx hb dX9_takenBy_21 rfl (lv_at hl 0 rfl) ?_
      refine gf_X9_15 C G kd_114 (n' := 116) rfl dX9_takenBy_22 ?_
      refine lv_iload_n hx hb dX9_takenBy_25 rfl (lv_at hl 2 rfl) ?_
      refine lv_iconst (v := 4) hx hb dX9_takenBy_26 (by decide) ?_
      refine lv_imul hx hb dX9_takenBy_27 ?_
      refine lv_iload hx hb dX9_takenBy_28 (lv_at hl 4 rfl) ?_
      refine lv_iadd hx hb dX9_takenBy_30 ?_
      obtain ⟨g_4, hs⟩ := gdE hs
      refine m_iald C G kd_116 ln_116 g_4 dX9_takenBy_31 ?_
      refine lv_iadd hx hb dX9_takenBy_32 ?_
      refine topI hs (fun x3_5 hs => ?_)
      refine lv_istore_n (lv' := [(3, .int x3_5), (0, .ref (b + 114)), (1, .int x1), (2, .int x2), (4, .int x4)]) hx hb dX9_takenBy_33 rfl hl (by decide) rfl (fun ls hl => ?_)
      exact wX9_takenBy_34 C  hh hxx hs G (lv_sub hl [1, 2, 3, 0, 4] rfl)
def fX9_takenBy_5 : Nat → (Sg → Int32 → Option (Int32 × Sg)) → Sg → Int32 → Int32 → Int32 → Int32 → Option (Int32 × Sg)
  | 0, _, _, _, _, _, _ => none
  | fu + 1, kx, σ, x1, x2, x3, x4 => fX9_takenBy_5b (fX9_takenBy_5 fu kx) kx σ x1 x2 x3 x4
theorem fX9_takenBy_5_s (fu : Nat) (kx : Sg → Int32 → Option (Int32 × Sg)) (σ : Sg) (x1 : Int32) (x2 : Int32) (x3 : Int32) (x4 : Int32) : fX9_takenBy_5 (fu + 1) kx σ x1 x2 x3 x4 = fX9_takenBy_5b (fX9_takenBy_5 fu kx) kx σ x1 x2 x3 x4 := by rw [fX9_takenBy_5]
theorem wX9_takenBy_5 {p : Program} {l : Launch} {e : Env} {s : State} {m : MethodId} {args : Array Value} {below : List Frame} {meth : Method} {c : Code} {D : va_G} {cI cZ cO : ClassId} {b : Nat} (C : Cx p s m args meth c cX9_takenBy RX9 5 (some .int) D cI cZ cO) {Rr : (Int32 × Sg)} {kx : Sg → Int32 → Option (Int32 × Sg)} (hxx : ∀ (σ : Sg) (x3 : Int32) (H : Heap) (locs : List Loc) (ls : Array Slot), kx σ x3 = some Rr → Gd b D cI cZ cO σ s.heap H locs → lv_has ls 5 [(3, .int x3)] → W p l e rmX9_takenBy s m args below meth c H locs 0 0 (MQ below (QI b D cI cZ cO Rr) args s 0 0 (fun q => b ≤ q)) (F0 m 40 ls [])) : ∀ (fu : Nat) (σ : Sg) (x1 : Int32) (x2 : Int32) (x3 : Int32) (x4 : Int32) (H : Heap) (locs : List Loc) (ls : Array Slot), fX9_takenBy_5 fu kx σ x1 x2 x3 x4 = some Rr → Gd b D cI cZ cO σ s.heap H locs → lv_has ls 5 [(0, .ref (b + 114)), (1, .int x1), (2, .int x2), (3, .int x3), (4, .int x4)] → W p l e rmX9_takenBy s m args below meth c H locs 0 0 (MQ below (QI b D cI cZ cO Rr) args s 0 0 (fun q => b ≤ q)) (F0 m 5 ls []) := by
  intro fu
  induction fu with
  | zero => intro σ x1 x2 x3 x4 H locs ls hs; cases hs
  | succ fu ih =>
    intro σ x1 x2 x3 x4 H locs ls hs G hl
    exact wX9_takenBy_5b C (fun σ x1 x2 x3 x4 H locs ls hs G hl => ih σ x1 x2 x3 x4 H locs ls hs G hl) hxx hs G hl
def fX9_takenBy (σ : Sg) (x1 : Int32) (x2 : Int32) : Option (Int32 × Sg) :=
  fX9_takenBy_5 FU (fun σ_6 x3_6 => some (x3_6, σ_6)) σ x1 x2 0 0
set_option maxRecDepth 100000 in
set_option maxHeartbeats 4000000 in
theorem ctX9_takenBy (l : Launch) {D : va_G} {cI cZ cO : ClassId} {b : Nat} {σ : Sg} {x1 : Int32} {x2 : Int32} {Rr : (Int32 × Sg)} (hs : fX9_takenBy σ x1 x2 = some Rr) : MI l yX9_takenBy cX9_takenBy 5 (some .int) rmX9_takenBy [.ref (b + 114), .int x1, .int x2] b D cI cZ cO σ Rr := by
  unfold fX9_takenBy at hs
  refine metI (by decide +kernel) (Nat.le_of_ble_eq_true rfl) (fun p e s m below meth c ls C G hl => ?_)
  have C : Cx p s m _ meth c cX9_takenBy RX9 5 (some .int) D cI cZ cO := C
  have hx := C.1
  have hb := C.2.1
  have hl : lv_has ls 5 [(0, .ref (b + 114)), (1, .int x1), (2, .int x2)] := hl
  refine lv_iconst (v := 0) hx hb dX9_takenBy_0 (by decide) ?_
  refine lv_istore_n (lv' := [(3, .int 0), (0, .ref (b + 114)), (1, .int x1), (2, .int x2)]) hx hb dX9_takenBy_1 rfl hl (by decide) rfl (fun ls hl => ?_)
  refine lv_iconst (v := 0) hx hb dX9_takenBy_2 (by decide) ?_
  refine lv_istore (lv' := [(4, .int 0), (3, .int 0), (0, .ref (b + 114)), (1, .int x1), (2, .int x2)]) hx hb dX9_takenBy_3 hl (by decide) rfl (fun ls hl => ?_)
  refine wX9_takenBy_5 C (fun σ_6 x3_6 H locs ls hs G hl => ?_) FU _ _ _ _ _ _ _ _ hs G (lv_sub hl [2, 3, 4, 1, 0] rfl)
  refine lv_iload_n hx hb dX9_takenBy_40 rfl (lv_at hl 0 rfl) ?_
  exact retI C G hs dX9_takenBy_41
-- X9_fits
def rmX9_fits : Room := { frames := 1, cells := 0, slots := 0, locals := 24 }
def fX9_fits_2b (kh : Sg → Int32 → Int32 → Option (Int32 × Sg)) (kx : Sg → Option (Int32 × Sg)) (σ : Sg) (x1 : Int32) (x2 : Int32) : Option (Int32 × Sg) :=
  (if (σ 114 0) ≤ x2 then kx σ else bi (fX9_takenBy σ x1 x2) (fun r_2 σ_2 => (if inb x2 6 then (if r_2 = (σ_2 115 x2.toNatClampNeg) then lt (x2 + 1) (fun x2_5 => kh σ_2 x1 x2_5) else some (0, σ_2)) else none)))
set_option maxRecDepth 100000 in
set_option maxHeartbeats 4000000 in
theorem wX9_fits_2b {p : Program} {l : Launch} {e : Env} {s : State} {m : MethodId} {args : Array Value} {below : List Frame} {meth : Method} {c : Code} {D : va_G} {cI cZ cO : ClassId} {b : Nat} (C : Cx p s m args meth c cX9_fits RX9 3 (some .boolean) D cI cZ cO) {Rr : (Int32 × Sg)} {kh : Sg → Int32 → Int32 → Option (Int32 × Sg)} {kx : Sg → Option (Int32 × Sg)} (hh : ∀ (σ : Sg) (x1 : Int32) (x2 : Int32) (H : Heap) (locs : List Loc) (ls : Array Slot), kh σ x1 x2 = some Rr → Gd b D cI cZ cO σ s.heap H locs → lv_has ls 3 [(0, .ref (b + 114)), (1, .int x1), (2, .int x2)] → W p l e rmX9_fits s m args below meth c H locs 0 0 (MQ below (QI b D cI cZ cO Rr) args s 0 0 (fun q => b ≤ q)) (F0 m 2 ls [])) (hxx : ∀ (σ : Sg) (H : Heap) (locs : List Loc) (ls : Array Slot), kx σ = some Rr → Gd b D cI cZ cO σ s.heap H locs → lv_has ls 3 [] → W p l e rmX9_fits s m args below meth c H locs 0 0 (MQ below (QI b D cI cZ cO Rr) args s 0 0 (fun q => b ≤ q)) (F0 m 33 ls [])) {σ : Sg} {x1 : Int32} {x2 : Int32} {H : Heap} {locs : List Loc} {ls : Array Slot} (hs : fX9_fits_2b kh kx σ x1 x2 = some Rr) (G : Gd b D cI cZ cO σ s.heap H locs) (hl : lv_has ls 3 [(0, .ref (b + 114)), (1, .int x1), (2, .int x2)]) : W p l e rmX9_fits s m args below meth c H locs 0 0 (MQ below (QI b D cI cZ cO Rr) args s 0 0 (fun q => b ≤ q)) (F0 m 2 ls []) := by
  have hx := C.1
  have hb := C.2.1
  unfold fX9_fits_2b at hs
  refine lv_iload_n hx hb dX9_fits_2 rfl (lv_at hl 2 rfl) ?_
  refine lv_aload_n hx hb dX9_fits_3 rfl (lv_at hl 0 rfl) ?_
  refine gf_X9_18 C G kd_114 dX9_fits_4 ?_
  refine lv_icmp_ge (tgt := 33) hx hb dX9_fits_7 (by decide) (fun c_1 => ?_) (fun c_1 => ?_)
  · replace hs := ifT c_1 hs
    exact hxx _ _ _ _ hs G (lv_sub hl [] rfl)
  · replace hs := ifF c_1 hs
    refine lv_aload_n hx hb dX9_fits_10 rfl (lv_at hl 0 rfl) ?_
    refine lv_iload_n hx hb dX9_fits_11 rfl (lv_at hl 1 rfl) ?_
    refine lv_iload_n hx hb dX9_fits_12 rfl (lv_at hl 2 rfl) ?_
    obtain ⟨r_2, σ_2, hc, hs⟩ := biE hs
    refine callVI (ar := 2) (As := [.int x1, .int x2]) (rest := []) C G hl.1 (ctX9_takenBy _  hc) ⟨wd_569, wd_571, wd_13, wd_78, wd_572⟩ (by decide +kernel) rfl ⟨rfl, rfl⟩ ⟨Nat.le_of_ble_eq_true rfl, Nat.le_of_ble_eq_true rfl⟩ (kd_lt kd_114 (by decide)) (ent_9 b cI cZ cO _ kd_114) rfl (Nat.le_of_ble_eq_true rfl) ⟨Nat.le_of_ble_eq_true rfl, Nat.le_of_ble_eq_true rfl⟩ dX9_fits_13 rfl (fun H locs G => ?_)
    refine lv_aload_n hx hb dX9_fits_16 rfl (lv_at hl 0 rfl) ?_
    refine gf_X9_9 C G kd_114 (n' := 115) rfl dX9_fits_17 ?_
    refine lv_iload_n hx hb dX9_fits_20 rfl (lv_at hl 2 rfl) ?_
    obtain ⟨g_3, hs⟩ := gdE hs
    refine m_iald C G kd_115 ln_115 g_3 dX9_fits_21 ?_
    refine lv_icmp_eq (tgt := 27) hx hb dX9_fits_22 (by decide) (fun c_4 => ?_) (fun c_4 => ?_)
    · replace hs := ifT c_4 hs
      obtain ⟨x2_5, e_5, hs⟩ := ltE hs
      refine lv_iinc (v := x2_5) (lv' := [(2, .int x2_5), (0, .ref (b + 114)), (1, .int x1)]) hx hb dX9_fits_27 hl (k := 2) rfl (by rw [e_5]; rfl) (by decide) rfl (fun ls hl => ?_)
      refine lv_goto (tgt := 2) hx hb dX9_fits_30 (by decide) ?_
      exact hh _ _ _ _ _ _ hs G (lv_sub hl [1, 2, 0] rfl)
    · replace hs := ifF c_4 hs
      refine lv_iconst (v := 0) hx hb dX9_fits_25 (by decide) ?_
      exact retZ C G (by decide) hs dX9_fits_26
def fX9_fits_2 : Nat → (Sg → Option (Int32 × Sg)) → Sg → Int32 → Int32 → Option (Int32 × Sg)
  | 0, _, _, _, _ => none
  | fu + 1, kx, σ, x1, x2 => fX9_fits_2b (fX9_fits_2 fu kx) kx σ x1 x2
theorem fX9_fits_2_s (fu : Nat) (kx : Sg → Option (Int32 × Sg)) (σ : Sg) (x1 : Int32) (x2 : Int32) : fX9_fits_2 (fu + 1) kx σ x1 x2 = fX9_fits_2b (fX9_fits_2 fu kx) kx σ x1 x2 := by rw [fX9_fits_2]
theorem wX9_fits_2 {p : Program} {l : Launch} {e : Env} {s : State} {m : MethodId} {args : Array Value} {below : List Frame} {meth : Method} {c : Code} {D : va_G} {cI cZ cO : ClassId} {b : Nat} (C : Cx p s m args meth c cX9_fits RX9 3 (some .boolean) D cI cZ cO) {Rr : (Int32 × Sg)} {kx : Sg → Option (Int32 × Sg)} (hxx : ∀ (σ : Sg) (H : Heap) (locs : List Loc) (ls : Array Slot), kx σ = some Rr → Gd b D cI cZ cO σ s.heap H locs → lv_has ls 3 [] → W p l e rmX9_fits s m args below meth c H locs 0 0 (MQ below (QI b D cI cZ cO Rr) args s 0 0 (fun q => b ≤ q)) (F0 m 33 ls [])) : ∀ (fu : Nat) (σ : Sg) (x1 : Int32) (x2 : Int32) (H : Heap) (locs : List Loc) (ls : Array Slot), fX9_fits_2 fu kx σ x1 x2 = some Rr → Gd b D cI cZ cO σ s.heap H locs → lv_has ls 3 [(0, .ref (b + 114)), (1, .int x1), (2, .int x2)] → W p l e rmX9_fits s m args below meth c H locs 0 0 (MQ below (QI b D cI cZ cO Rr) args s 0 0 (fun q => b ≤ q)) (F0 m 2 ls []) := by
  intro fu
  induction fu with
  | zero => intro σ x1 x2 H locs ls hs; cases hs
  | succ fu ih =>
    intro σ x1 x2 H locs ls hs G hl
    exact wX9_fits_2b C (fun σ x1 x2 H locs ls hs G hl => ih σ x1 x2 H locs ls hs G hl) hxx hs G hl
def fX9_fits (σ : Sg) (x1 : Int32) : Option (Int32 × Sg) :=
  fX9_fits_2 FU (fun σ_6 => some (1, σ_6)) σ x1 0
set_option maxRecDepth 100000 in
set_option maxHeartbeats 4000000 in
theorem ctX9_fits (l : Launch) {D : va_G} {cI cZ cO : ClassId} {b : Nat} {σ : Sg} {x1 : Int32} {Rr : (Int32 × Sg)} (hs : fX9_fits σ x1 = some Rr) : MI l yX9_fits cX9_fits 3 (some .boolean) rmX9_fits [.ref (b + 114), .int x1] b D cI cZ cO σ Rr := by
  unfold fX9_fits at hs
  refine metI (by decide +kernel) (Nat.le_of_ble_eq_true rfl) (fun p e s m below meth c ls C G hl => ?_)
  have C : Cx p s m _ meth c cX9_fits RX9 3 (some .boolean) D cI cZ cO := C
  have hx := C.1
  have hb := C.2.1
  have hl : lv_has ls 3 [(0, .ref (b + 114)), (1, .int x1)] := hl
  refine lv_iconst (v := 0) hx hb dX9_fits_0 (by decide) ?_
  refine lv_istore_n (lv' := [(2, .int 0), (0, .ref (b + 114)), (1, .int x1)]) hx hb dX9_fits_1 rfl hl (by decide) rfl (fun ls hl => ?_)
  refine wX9_fits_2 C (fun σ_6 H locs ls hs G hl => ?_) FU _ _ _ _ _ _ hs G (lv_sub hl [1, 2, 0] rfl)
  refine lv_iconst (v := 1) hx hb dX9_fits_33 (by decide) ?_
  exact retZ C G (by decide) hs dX9_fits_34
-- X9_countWith
def rmX9_countWith : Room := { frames := 2, cells := 0, slots := 0, locals := 46 }
def fX9_countWith_34 (n1 : Nat) (kh : Sg → Int32 → Int32 → Int32 → Option (Int32 × Sg)) (kx : Sg → Int32 → Option (Int32 × Sg)) (σ : Sg) (x2 : Int32) (x3 : Int32) (x4 : Int32) : Option (Int32 × Sg) :=
  lt (x4 + 1) (fun x4_4 => kh σ x2 x3 x4_4)
set_option maxRecDepth 100000 in
set_option maxHeartbeats 4000000 in
theorem wX9_countWith_34 {p : Program} {l : Launch} {e : Env} {s : State} {m : MethodId} {args : Array Value} {below : List Frame} {meth : Method} {c : Code} {D : va_G} {cI cZ cO : ClassId} {b : Nat} (C : Cx p s m args meth c cX9_countWith RX9 5 (some .int) D cI cZ cO) {n1 : Nat} (hk1 : kd n1 = 4) {Rr : (Int32 × Sg)} {kh : Sg → Int32 → Int32 → Int32 → Option (Int32 × Sg)} {kx : Sg → Int32 → Option (Int32 × Sg)} (hh : ∀ (σ : Sg) (x2 : Int32) (x3 : Int32) (x4 : Int32) (H : Heap) (locs : List Loc) (ls : Array Slot), kh σ x2 x3 x4 = some Rr → Gd b D cI cZ cO σ s.heap H locs → lv_has ls 5 [(0, .ref (b + 114)), (1, .ref (b + n1)), (2, .int x2), (3, .int x3), (4, .int x4)] → W p l e rmX9_countWith s m args below meth c H locs 0 0 (MQ below (QI b D cI cZ cO Rr) args s 0 0 (fun q => b ≤ q)) (F0 m 5 ls [])) (hxx : ∀ (σ : Sg) (x3 : Int32) (H : Heap) (locs : List Loc) (ls : Array Slot), kx σ x3 = some Rr → Gd b D cI cZ cO σ s.heap H locs → lv_has ls 5 [(3, .int x3)] → W p l e rmX9_countWith s m args below meth c H locs 0 0 (MQ below (QI b D cI cZ cO Rr) args s 0 0 (fun q => b ≤ q)) (F0 m 40 ls [])) {σ : Sg} {x2 : Int32} {x3 : Int32} {x4 : Int32} {H : Heap} {locs : List Loc} {ls : Array Slot} (hs : fX9_countWith_34 n1 kh kx σ x2 x3 x4 = some Rr) (G : Gd b D cI cZ cO σ s.heap H locs) (hl : lv_has ls 5 [(0, .ref (b + 114)), (1, .ref (b + n1)), (2, .int x2), (3, .int x3), (4, .int x4)]) : W p l e rmX9_countWith s m args below meth c H locs 0 0 (MQ below (QI b D cI cZ cO Rr) args s 0 0 (fun q => b ≤ q)) (F0 m 34 ls []) := by
  have hx := C.1
  have hb := C.2.1
  unfold fX9_countWith_34 at hs
  obtain ⟨x4_4, e_4, hs⟩ := ltE hs
  refine lv_iinc (v := x4_4) (lv' := [(4, .int x4_4), (0, .ref (b + 114)), (1, .ref (b + n1)), (2, .int x2), (3, .int x3)]) hx hb dX9_countWith_34 hl (k := 4) rfl (by rw [e_4]; rfl) (by decide) rfl (fun ls hl => ?_)
  refine lv_goto (tgt := 5) hx hb dX9_countWith_37 (by decide) ?_
  exact hh _ _ _ _ _ _ _ hs G (lv_sub hl [1, 2, 3, 4, 0] rfl)
def fX9_countWith_5b (n1 : Nat) (kh : Sg → Int32 → Int32 → Int32 → Option (Int32 × Sg)) (kx : Sg → Int32 → Option (Int32 × Sg)) (σ : Sg) (x2 : Int32) (x3 : Int32) (x4 : Int32) : Option (Int32 × Sg) :=
  bi (fX9_setsOf n1 σ) (fun r_1 σ_1 => (if r_1 ≤ x4 then kx σ_1 x3 else (if (x4 &&& x2) = x2 then bi (fX9_fits σ_1 x4) (fun r_5 σ_5 => (if r_5 = 0 then fX9_countWith_34 n1 kh kx σ_5 x2 x3 x4 else lt (x3 + 1) (fun x3_7 => fX9_countWith_34 n1 kh kx σ_5 x2 x3_7 x4))) else fX9_countWith_34 n1 kh kx σ_1 x2 x3 x4)))
set_option maxRecDepth 100000 in
set_option maxHeartbeats 4000000 in
theorem wX9_countWith_5b {p : Program} {l : Launch} {e : Env} {s : State} {m : MethodId} {args : Array Value} {below : List Frame} {meth : Method} {c : Code} {D : va_G} {cI cZ cO : ClassId} {b : Nat} (C : Cx p s m args meth c cX9_countWith RX9 5 (some .int) D cI cZ cO) {n1 : Nat} (hk1 : kd n1 = 4) {Rr : (Int32 × Sg)} {kh : Sg → Int32 → Int32 → Int32 → Option (Int32 × Sg)} {kx : Sg → Int32 → Option (Int32 × Sg)} (hh : ∀ (σ : Sg) (x2 : Int32) (x3 : Int32) (x4 : Int32) (H : Heap) (locs : List Loc) (ls : Array Slot), kh σ x2 x3 x4 = some Rr → Gd b D cI cZ cO σ s.heap H locs → lv_has ls 5 [(0, .ref (b + 114)), (1, .ref (b + n1)), (2, .int x2), (3, .int x3), (4, .int x4)] → W p l e rmX9_countWith s m args below meth c H locs 0 0 (MQ below (QI b D cI cZ cO Rr) args s 0 0 (fun q => b ≤ q)) (F0 m 5 ls [])) (hxx : ∀ (σ : Sg) (x3 : Int32) (H : Heap) (locs : List Loc) (ls : Array Slot), kx σ x3 = some Rr → Gd b D cI cZ cO σ s.heap H locs → lv_has ls 5 [(3, .int x3)] → W p l e rmX9_countWith s m args below meth c H locs 0 0 (MQ below (QI b D cI cZ cO Rr) args s 0 0 (fun q => b ≤ q)) (F0 m 40 ls [])) {σ : Sg} {x2 : Int32} {x3 : Int32} {x4 : Int32} {H : Heap} {locs : List Loc} {ls : Array Slot} (hs : fX9_countWith_5b n1 kh kx σ x2 x3 x4 = some Rr) (G : Gd b D cI cZ cO σ s.heap H locs) (hl : lv_has ls 5 [(0, .ref (b + 114)), (1, .ref (b + n1)), (2, .int x2), (3, .int x3), (4, .int x4)]) : W p l e rmX9_countWith s m args below meth c H locs 0 0 (MQ below (QI b D cI cZ cO Rr) args s 0 0 (fun q => b ≤ q)) (F0 m 5 ls []) := by
  have hx := C.1
  have hb := C.2.1
  unfold fX9_countWith_5b at hs
  refine lv_iload hx hb dX9_countWith_5 (lv_at hl 4 rfl) ?_
  refine lv_aload_n hx hb dX9_countWith_7 rfl (lv_at hl 1 rfl) ?_
  obtain ⟨r_1, σ_1, hc, hs⟩ := biE hs
  refine callSI (ar := 1) (As := [.ref (b + n1)]) (rest := [.int x4]) C G hl.1 (ctX9_setsOf _ hk1 hc) ⟨wd_562, wd_563, wd_78, wd_564⟩ (by decide +kernel) rfl ⟨rfl, rfl⟩ ⟨Nat.le_of_ble_eq_true rfl, Nat.le_of_ble_eq_true rfl⟩ (Nat.le_of_ble_eq_true rfl) ⟨Nat.le_of_ble_eq_true rfl, Nat.le_of_ble_eq_true rfl⟩ dX9_countWith_8 rfl (fun H locs G => ?_)
  refine lv_icmp_ge (tgt := 40) hx hb dX9_countWith_11 (by decide) (fun c_2 => ?_) (fun c_2 => ?_)
  · replace hs := ifT c_2 hs
    exact hxx _ _ _ _ _ hs G (lv_sub hl [3] rfl)
  · replace hs := ifF c_2 hs
    refine lv_iload hx hb dX9_countWith_14 (lv_at hl 4 rfl) ?_
    refine lv_iload_n hx hb dX9_countWith_16 rfl (lv_at hl 2 rfl) ?_
    refine lv_iand hx hb dX9_countWith_17 ?_
    refine lv_iload_n hx hb dX9_countWith_18 rfl (lv_at hl 2 rfl) ?_
    refine lv_icmp_ne (tgt := 34) hx hb dX9_countWith_19 (by decide) (fun c_3 => ?_) (fun c_3 => ?_)
    · replace hs := ifF c_3 hs
      exact wX9_countWith_34 C hk1 hh hxx hs G (lv_sub hl [0, 1, 2, 3, 4] rfl)
    · replace hs := ifT c_3 hs
      refine lv_aload_n hx hb dX9_countWith_22 rfl (lv_at hl 0 rfl) ?_
      refine lv_iload hx hb dX9_countWith_23 (lv_at hl 4 rfl) ?_
      obtain ⟨r_5, σ_5, hc, hs⟩ := biE hs
      refine callVI (ar := 1) (As := [.int x4]) (rest := []) C G hl.1 (ctX9_fits _  hc) ⟨wd_565, wd_567, wd_12, wd_78, wd_568⟩ (by decide +kernel) rfl ⟨rfl, rfl⟩ ⟨Nat.le_of_ble_eq_true rfl, Nat.le_of_ble_eq_true rfl⟩ (kd_lt kd_114 (by decide)) (ent_9 b cI cZ cO _ kd_114) rfl (Nat.le_of_ble_eq_true rfl) ⟨Nat.le_of_ble_eq_true rfl, Nat.le_of_ble_eq_true rfl⟩ dX9_countWith_25 rfl (fun H locs G => ?_)
      refine lv_if_eq (tgt := 34) hx hb dX9_countWith_28 (by decide) (fun c_6 => ?_) (fun c_6 => ?_)
      · replace hs := ifT c_6 hs
        exact wX9_countWith_34 C hk1 hh hxx hs G (lv_sub hl [0, 1, 2, 3, 4] rfl)
      · replace hs := ifF c_6 hs
        obtain ⟨x3_7, e_7, hs⟩ := ltE hs
        refine lv_iinc (v := x3_7) (lv' := [(3, .int x3_7), (0, .ref (b + 114)), (1, .ref (b + n1)), (2, .int x2), (4, .int x4)]) hx hb dX9_countWith_31 hl (k := 3) rfl (by rw [e_7]; rfl) (by decide) rfl (fun ls hl => ?_)
        exact wX9_countWith_34 C hk1 hh hxx hs G (lv_sub hl [1, 2, 3, 0, 4] rfl)
def fX9_countWith_5 (n1 : Nat) : Nat → (Sg → Int32 → Option (Int32 × Sg)) → Sg → Int32 → Int32 → Int32 → Option (Int32 × Sg)
  | 0, _, _, _, _, _ => none
  | fu + 1, kx, σ, x2, x3, x4 => fX9_countWith_5b n1 (fX9_countWith_5 n1 fu kx) kx σ x2 x3 x4
theorem fX9_countWith_5_s (n1 : Nat) (fu : Nat) (kx : Sg → Int32 → Option (Int32 × Sg)) (σ : Sg) (x2 : Int32) (x3 : Int32) (x4 : Int32) : fX9_countWith_5 n1 (fu + 1) kx σ x2 x3 x4 = fX9_countWith_5b n1 (fX9_countWith_5 n1 fu kx) kx σ x2 x3 x4 := by rw [fX9_countWith_5]
theorem wX9_countWith_5 {p : Program} {l : Launch} {e : Env} {s : State} {m : MethodId} {args : Array Value} {below : List Frame} {meth : Method} {c : Code} {D : va_G} {cI cZ cO : ClassId} {b : Nat} (C : Cx p s m args meth c cX9_countWith RX9 5 (some .int) D cI cZ cO) {n1 : Nat} (hk1 : kd n1 = 4) {Rr : (Int32 × Sg)} {kx : Sg → Int32 → Option (Int32 × Sg)} (hxx : ∀ (σ : Sg) (x3 : Int32) (H : Heap) (locs : List Loc) (ls : Array Slot), kx σ x3 = some Rr → Gd b D cI cZ cO σ s.heap H locs → lv_has ls 5 [(3, .int x3)] → W p l e rmX9_countWith s m args below meth c H locs 0 0 (MQ below (QI b D cI cZ cO Rr) args s 0 0 (fun q => b ≤ q)) (F0 m 40 ls [])) : ∀ (fu : Nat) (σ : Sg) (x2 : Int32) (x3 : Int32) (x4 : Int32) (H : Heap) (locs : List Loc) (ls : Array Slot), fX9_countWith_5 n1 fu kx σ x2 x3 x4 = some Rr → Gd b D cI cZ cO σ s.heap H locs → lv_has ls 5 [(0, .ref (b + 114)), (1, .ref (b + n1)), (2, .int x2), (3, .int x3), (4, .int x4)] → W p l e rmX9_countWith s m args below meth c H locs 0 0 (MQ below (QI b D cI cZ cO Rr) args s 0 0 (fun q => b ≤ q)) (F0 m 5 ls []) := by
  intro fu
  induction fu with
  | zero => intro σ x2 x3 x4 H locs ls hs; cases hs
  | succ fu ih =>
    intro σ x2 x3 x4 H locs ls hs G hl
    exact wX9_countWith_5b C hk1 (fun σ x2 x3 x4 H locs ls hs G hl => ih σ x2 x3 x4 H locs ls hs G hl) hxx hs G hl
def fX9_countWith (n1 : Nat) (σ : Sg) (x2 : Int32) : Option (Int32 × Sg) :=
  fX9_countWith_5 n1 FU (fun σ_8 x3_8 => some (x3_8, σ_8)) σ x2 0 0
set_option maxRecDepth 100000 in
set_option maxHeartbeats 4000000 in
theorem ctX9_countWith (l : Launch) {n1 : Nat} (hk1 : kd n1 = 4) {D : va_G} {cI cZ cO : ClassId} {b : Nat} {σ : Sg} {x2 : Int32} {Rr : (Int32 × Sg)} (hs : fX9_countWith n1 σ x2 = some Rr) : MI l yX9_countWith cX9_countWith 5 (some .int) rmX9_countWith [.ref (b + 114), .ref (b + n1), .int x2] b D cI cZ cO σ Rr := by
  unfold fX9_countWith at hs
  refine metI (by decide +kernel) (Nat.le_of_ble_eq_true rfl) (fun p e s m below meth c ls C G hl => ?_)
  have C : Cx p s m _ meth c cX9_countWith RX9 5 (some .int) D cI cZ cO := C
  have hx := C.1
  have hb := C.2.1
  have hl : lv_has ls 5 [(0, .ref (b + 114)), (1, .ref (b + n1)), (2, .int x2)] := hl
  refine lv_iconst (v := 0) hx hb dX9_countWith_0 (by decide) ?_
  refine lv_istore_n (lv' := [(3, .int 0), (0, .ref (b + 114)), (1, .ref (b + n1)), (2, .int x2)]) hx hb dX9_countWith_1 rfl hl (by decide) rfl (fun ls hl => ?_)
  refine lv_iconst (v := 0) hx hb dX9_countWith_2 (by decide) ?_
  refine lv_istore (lv' := [(4, .int 0), (3, .int 0), (0, .ref (b + 114)), (1, .ref (b + n1)), (2, .int x2)]) hx hb dX9_countWith_3 hl (by decide) rfl (fun ls hl => ?_)
  refine wX9_countWith_5 C hk1 (fun σ_8 x3_8 H locs ls hs G hl => ?_) FU _ _ _ _ _ _ _ hs G (lv_sub hl [2, 3, 4, 1, 0] rfl)
  refine lv_iload_n hx hb dX9_countWith_40 rfl (lv_at hl 0 rfl) ?_
  exact retI C G hs dX9_countWith_41
-- X9_countSets
def rmX9_countSets : Room := { frames := 3, cells := 0, slots := 0, locals := 70 }
def fX9_countSets (n1 : Nat) (σ : Sg) : Option (Int32 × Sg) :=
  bi (fX9_countWith n1 σ 0) (fun r_1 σ_1 => some (r_1, σ_1))
set_option maxRecDepth 100000 in
set_option maxHeartbeats 4000000 in
theorem ctX9_countSets (l : Launch) {n1 : Nat} (hk1 : kd n1 = 4) {D : va_G} {cI cZ cO : ClassId} {b : Nat} {σ : Sg} {Rr : (Int32 × Sg)} (hs : fX9_countSets n1 σ = some Rr) : MI l yX9_countSets cX9_countSets 2 (some .int) rmX9_countSets [.ref (b + 114), .ref (b + n1)] b D cI cZ cO σ Rr := by
  unfold fX9_countSets at hs
  refine metI (by decide +kernel) (Nat.le_of_ble_eq_true rfl) (fun p e s m below meth c ls C G hl => ?_)
  have C : Cx p s m _ meth c cX9_countSets RX9 2 (some .int) D cI cZ cO := C
  have hx := C.1
  have hb := C.2.1
  have hl : lv_has ls 2 [(0, .ref (b + 114)), (1, .ref (b + n1))] := hl
  refine lv_aload_n hx hb dX9_countSets_0 rfl (lv_at hl 0 rfl) ?_
  refine lv_aload_n hx hb dX9_countSets_1 rfl (lv_at hl 1 rfl) ?_
  refine lv_iconst (v := 0) hx hb dX9_countSets_2 (by decide) ?_
  obtain ⟨r_1, σ_1, hc, hs⟩ := biE hs
  refine callVI (ar := 2) (As := [.ref (b + n1), .int 0]) (rest := []) C G hl.1 (ctX9_countWith _ hk1 hc) ⟨wd_558, wd_560, wd_11, wd_78, wd_561⟩ (by decide +kernel) rfl ⟨rfl, rfl⟩ ⟨Nat.le_of_ble_eq_true rfl, Nat.le_of_ble_eq_true rfl⟩ (kd_lt kd_114 (by decide)) (ent_9 b cI cZ cO _ kd_114) rfl (Nat.le_of_ble_eq_true rfl) ⟨Nat.le_of_ble_eq_true rfl, Nat.le_of_ble_eq_true rfl⟩ dX9_countSets_3 rfl (fun H locs G => ?_)
  exact retI C G hs dX9_countSets_6
