-- X2_answerBack
def rmX2_answerBack : Room := { frames := 4, cells := 0, slots := 0, locals := 101 }
def fX2_answerBack (σ : Sg) (x1 : Int32) (x2 : Int32) : Option Sg :=
  (if inb x1 7 then bi (fX2_leftBy σ x2 (σ 12 x1.toNatClampNeg)) (fun r_2 σ_2 => (if inb x1 7 then lt (if 0 < ((σ_2 12 x1.toNatClampNeg) - r_2) then ((σ_2 12 x1.toNatClampNeg) - r_2) else 0) (fun x4_4 => (if inb x1 7 then lt (st σ_2 12 x1.toNatClampNeg r_2) (fun σ_5 => lt (st σ_5 11 1 (if ((σ_5 11 1) + x4_4) < 9999 then ((σ_5 11 1) + x4_4) else 9999)) (fun σ_6 => lt (st σ_6 11 0 (if 1 < ((σ_6 11 0) - 1) then ((σ_6 11 0) - 1) else 1)) (fun σ_7 => lt (st σ_7 11 4 ((σ_7 11 4) ||| ((1 : Int32) <<< (x2 &&& 31)))) (fun σ_8 => some σ_8)))) else none)) else none)) else none)
set_option maxRecDepth 100000 in
set_option maxHeartbeats 4000000 in
theorem ctX2_answerBack (l : Launch) {D : va_G} {cI cZ cO : ClassId} {b : Nat} {σ : Sg} {x1 : Int32} {x2 : Int32} {Rr : Sg} (hs : fX2_answerBack σ x1 x2 = some Rr) : MV l yX2_answerBack cX2_answerBack 5 rmX2_answerBack [.ref (b + 3), .int x1, .int x2] b D cI cZ cO σ Rr := by
  unfold fX2_answerBack at hs
  refine metV (by decide +kernel) (Nat.le_of_ble_eq_true rfl) (fun p e s m below meth c ls C G hl => ?_)
  have C : Cx p s m _ meth c cX2_answerBack RX2 5 none D cI cZ cO := C
  have hx := C.1
  have hb := C.2.1
  have hl : lv_has ls 5 [(0, .ref (b + 3)), (1, .int x1), (2, .int x2)] := hl
  refine lv_aload_n hx hb dX2_answerBack_0 rfl (lv_at hl 0 rfl) ?_
  refine lv_iload_n hx hb dX2_answerBack_1 rfl (lv_at hl 2 rfl) ?_
  refine lv_aload_n hx hb dX2_answerBack_2 rfl (lv_at hl 0 rfl) ?_
  refine gf_X2_21 C G kd_3 (n' := 11) rfl dX2_answerBack_3 ?_
  refine gf_X2_46 C G kd_11 (n' := 12) rfl dX2_answerBack_6 ?_
  refine lv_iload_n hx hb dX2_answerBack_9 rfl (lv_at hl 1 rfl) ?_
  obtain ⟨g_1, hs⟩ := gdE hs
  refine m_iald C G kd_12 ln_12 g_1 dX2_answerBack_10 ?_
  obtain ⟨r_2, σ_2, hc, hs⟩ := biE hs
  refine callVI (ar := 2) (As := [.int x2, .int (σ 12 x1.toNatClampNeg)]) (rest := []) C G hl.1 (ctX2_leftBy _  hc) ⟨wd_598, wd_599, wd_600, wd_71, wd_601⟩ (by decide +kernel) rfl ⟨rfl, rfl⟩ ⟨Nat.le_of_ble_eq_true rfl, Nat.le_of_ble_eq_true rfl⟩ (kd_lt kd_3 (by decide)) (ent_2 b cI cZ cO _ kd_3) rfl (Nat.le_of_ble_eq_true rfl) ⟨Nat.le_of_ble_eq_true rfl, Nat.le_of_ble_eq_true rfl⟩ dX2_answerBack_11 rfl (fun H locs G => ?_)
  refine lv_istore_n (lv' := [(3, .int r_2), (0, .ref (b + 3)), (1, .int x1), (2, .int x2)]) hx hb dX2_answerBack_14 rfl hl (by decide) rfl (fun ls hl => ?_)
  refine lv_iconst (v := 0) hx hb dX2_answerBack_15 (by decide) ?_
  refine lv_aload_n hx hb dX2_answerBack_16 rfl (lv_at hl 1 rfl) ?_
  refine gf_X2_21 C G kd_3 (n' := 11) rfl dX2_answerBack_17 ?_
  refine gf_X2_46 C G kd_11 (n' := 12) rfl dX2_answerBack_20 ?_
  refine lv_iload_n hx hb dX2_answerBack_23 rfl (lv_at hl 2 rfl) ?_
  obtain ⟨g_3, hs⟩ := gdE hs
  refine m_iald C G kd_12 ln_12 g_3 dX2_answerBack_24 ?_
  refine lv_iload_n hx hb dX2_answerBack_25 rfl (lv_at hl 0 rfl) ?_
  refine lv_isub hx hb dX2_answerBack_26 ?_
  refine m_max C hl.1 wd_679 (Nat.le_of_ble_eq_true rfl) (Nat.le_of_ble_eq_true rfl) (Nat.le_of_ble_eq_true rfl) (Nat.le_of_ble_eq_true rfl) dX2_answerBack_27 ?_
  refine topI hs (fun x4_4 hs => ?_)
  refine lv_istore (lv' := [(4, .int x4_4), (3, .int r_2), (0, .ref (b + 3)), (1, .int x1), (2, .int x2)]) hx hb dX2_answerBack_30 hl (by decide) rfl (fun ls hl => ?_)
  refine lv_aload_n hx hb dX2_answerBack_32 rfl (lv_at hl 2 rfl) ?_
  refine gf_X2_21 C G kd_3 (n' := 11) rfl dX2_answerBack_33 ?_
  refine gf_X2_46 C G kd_11 (n' := 12) rfl dX2_answerBack_36 ?_
  refine lv_iload_n hx hb dX2_answerBack_39 rfl (lv_at hl 3 rfl) ?_
  refine lv_iload_n hx hb dX2_answerBack_40 rfl (lv_at hl 1 rfl) ?_
  obtain ⟨g_5, hs⟩ := gdE hs
  refine m_iast C G kd_12 ln_12 g_5 hs dX2_answerBack_41 (fun σ_5 H locs hs G => ?_)
  refine lv_aload_n hx hb dX2_answerBack_42 rfl (lv_at hl 2 rfl) ?_
  refine gf_X2_21 C G kd_3 (n' := 11) rfl dX2_answerBack_43 ?_
  refine lv_sipush (v := 9999) hx hb dX2_answerBack_46 (by decide) ?_
  refine lv_aload_n hx hb dX2_answerBack_49 rfl (lv_at hl 2 rfl) ?_
  refine gf_X2_21 C G kd_3 (n' := 11) rfl dX2_answerBack_50 ?_
  refine gf_X2_89 C G kd_11 dX2_answerBack_53 ?_
  refine lv_iload hx hb dX2_answerBack_56 (lv_at hl 0 rfl) ?_
  refine lv_iadd hx hb dX2_answerBack_58 ?_
  refine m_min C hl.1 wd_641 (Nat.le_of_ble_eq_true rfl) (Nat.le_of_ble_eq_true rfl) (Nat.le_of_ble_eq_true rfl) (Nat.le_of_ble_eq_true rfl) dX2_answerBack_59 ?_
  refine pf_X2_89 C G kd_11 hs dX2_answerBack_62 (fun σ_6 H locs hs G => ?_)
  refine lv_aload_n hx hb dX2_answerBack_65 rfl (lv_at hl 2 rfl) ?_
  refine gf_X2_21 C G kd_3 (n' := 11) rfl dX2_answerBack_66 ?_
  refine lv_iconst (v := 1) hx hb dX2_answerBack_69 (by decide) ?_
  refine lv_aload_n hx hb dX2_answerBack_70 rfl (lv_at hl 2 rfl) ?_
  refine gf_X2_21 C G kd_3 (n' := 11) rfl dX2_answerBack_71 ?_
  refine gf_X2_63 C G kd_11 dX2_answerBack_74 ?_
  refine lv_iconst (v := 1) hx hb dX2_answerBack_77 (by decide) ?_
  refine lv_isub hx hb dX2_answerBack_78 ?_
  refine m_max C hl.1 wd_679 (Nat.le_of_ble_eq_true rfl) (Nat.le_of_ble_eq_true rfl) (Nat.le_of_ble_eq_true rfl) (Nat.le_of_ble_eq_true rfl) dX2_answerBack_79 ?_
  refine pf_X2_63 C G kd_11 hs dX2_answerBack_82 (fun σ_7 H locs hs G => ?_)
  refine lv_aload_n hx hb dX2_answerBack_85 rfl (lv_at hl 2 rfl) ?_
  refine gf_X2_21 C G kd_3 (n' := 11) rfl dX2_answerBack_86 ?_
  refine lv_dup hx hb dX2_answerBack_89 rfl ?_
  refine gf_X2_50 C G kd_11 dX2_answerBack_90 ?_
  refine lv_iconst (v := 1) hx hb dX2_answerBack_93 (by decide) ?_
  refine lv_iload_n hx hb dX2_answerBack_94 rfl (lv_at hl 4 rfl) ?_
  refine lv_ishl hx hb dX2_answerBack_95 ?_
  refine lv_ior hx hb dX2_answerBack_96 ?_
  refine pf_X2_50 C G kd_11 hs dX2_answerBack_97 (fun σ_8 H locs hs G => ?_)
  exact retV C G hs dX2_answerBack_100
-- X10_hurt
def rmX10_hurt : Room := { frames := 1, cells := 0, slots := 0, locals := 30 }
def fX10_hurt (n0 : Nat) (σ : Sg) (x1 : Int32) (x2 : Int32) : Option Sg :=
  (if inb x1 7 then (if inb x1 7 then lt (st σ (n0 + 2) x1.toNatClampNeg (if ((σ (n0 + 2) x1.toNatClampNeg) + x2) < 9999 then ((σ (n0 + 2) x1.toNatClampNeg) + x2) else 9999)) (fun σ_2 => some σ_2) else none) else none)
set_option maxRecDepth 100000 in
set_option maxHeartbeats 4000000 in
theorem ctX10_hurt (l : Launch) {n0 : Nat} (hk0 : kd n0 = 10) {D : va_G} {cI cZ cO : ClassId} {b : Nat} {σ : Sg} {x1 : Int32} {x2 : Int32} {Rr : Sg} (hs : fX10_hurt n0 σ x1 x2 = some Rr) : MV l yX10_hurt cX10_hurt 3 rmX10_hurt [.ref (b + n0), .int x1, .int x2] b D cI cZ cO σ Rr := by
  unfold fX10_hurt at hs
  refine metV (by decide +kernel) (Nat.le_of_ble_eq_true rfl) (fun p e s m below meth c ls C G hl => ?_)
  have C : Cx p s m _ meth c cX10_hurt RX10 3 none D cI cZ cO := C
  have hx := C.1
  have hb := C.2.1
  have hl : lv_has ls 3 [(0, .ref (b + n0)), (1, .int x1), (2, .int x2)] := hl
  refine lv_aload_n hx hb dX10_hurt_0 rfl (lv_at hl 0 rfl) ?_
  refine gf_X10_15 C G hk0 (n' := (n0 + 2)) rfl dX10_hurt_1 ?_
  refine lv_iload_n hx hb dX10_hurt_4 rfl (lv_at hl 1 rfl) ?_
  refine lv_sipush (v := 9999) hx hb dX10_hurt_5 (by decide) ?_
  refine lv_aload_n hx hb dX10_hurt_8 rfl (lv_at hl 0 rfl) ?_
  refine gf_X10_15 C G hk0 (n' := (n0 + 2)) rfl dX10_hurt_9 ?_
  refine lv_iload_n hx hb dX10_hurt_12 rfl (lv_at hl 1 rfl) ?_
  obtain ⟨g_1, hs⟩ := gdE hs
  refine m_iald C G (kS2 hk0) (lS2 hk0) g_1 dX10_hurt_13 ?_
  refine lv_iload_n hx hb dX10_hurt_14 rfl (lv_at hl 2 rfl) ?_
  refine lv_iadd hx hb dX10_hurt_15 ?_
  refine m_min C hl.1 wd_696 (Nat.le_of_ble_eq_true rfl) (Nat.le_of_ble_eq_true rfl) (Nat.le_of_ble_eq_true rfl) (Nat.le_of_ble_eq_true rfl) dX10_hurt_16 ?_
  obtain ⟨g_2, hs⟩ := gdE hs
  refine m_iast C G (kS2 hk0) (lS2 hk0) g_2 hs dX10_hurt_19 (fun σ_2 H locs hs G => ?_)
  exact retV C G hs dX10_hurt_20
-- X2_canTake
def rmX2_canTake : Room := { frames := 0, cells := 0, slots := 0, locals := 0 }
def fX2_canTake_34 (σ : Sg) : Option (Int32 × Sg) :=
  some (0, σ)
set_option maxRecDepth 100000 in
set_option maxHeartbeats 4000000 in
theorem wX2_canTake_34 {p : Program} {l : Launch} {e : Env} {s : State} {m : MethodId} {args : Array Value} {below : List Frame} {meth : Method} {c : Code} {D : va_G} {cI cZ cO : ClassId} {b : Nat} (C : Cx p s m args meth c cX2_canTake RX2 4 (some .int) D cI cZ cO) {Rr : (Int32 × Sg)} {σ : Sg} {H : Heap} {locs : List Loc} {ls : Array Slot} (hs : fX2_canTake_34 σ = some Rr) (G : Gd b D cI cZ cO σ s.heap H locs) (hl : lv_has ls 4 []) : W p l e rmX2_canTake s m args below meth c H locs 0 0 (MQ below (QI b D cI cZ cO Rr) args s 0 0 (fun q => b ≤ q)) (F0 m 34 ls []) := by
  have hx := C.1
  have hb := C.2.1
  unfold fX2_canTake_34 at hs
  refine lv_iconst (v := 0) hx hb dX2_canTake_34 (by decide) ?_
  exact retI C G hs dX2_canTake_35
def fX2_canTake (σ : Sg) (x1 : Int32) (x2 : Int32) : Option (Int32 × Sg) :=
  gk 4 (dn (σ 3 0)) (fun n_1 => (if inb x1 4 then lt (σ (n_1 + 6) x1.toNatClampNeg) (fun x3_3 => (if x3_3 = 0 then fX2_canTake_34 σ else (if (x3_3 &&& (x2 ^^^ (-1))) = 0 then (if inb x1 4 then some ((σ 15 x1.toNatClampNeg), σ) else none) else fX2_canTake_34 σ))) else none))
set_option maxRecDepth 100000 in
set_option maxHeartbeats 4000000 in
theorem ctX2_canTake (l : Launch) {D : va_G} {cI cZ cO : ClassId} {b : Nat} {σ : Sg} {x1 : Int32} {x2 : Int32} {Rr : (Int32 × Sg)} (hs : fX2_canTake σ x1 x2 = some Rr) : MI l yX2_canTake cX2_canTake 4 (some .int) rmX2_canTake [.ref (b + 3), .int x1, .int x2] b D cI cZ cO σ Rr := by
  unfold fX2_canTake at hs
  refine metI (by decide +kernel) (Nat.le_of_ble_eq_true rfl) (fun p e s m below meth c ls C G hl => ?_)
  have C : Cx p s m _ meth c cX2_canTake RX2 4 (some .int) D cI cZ cO := C
  have hx := C.1
  have hb := C.2.1
  have hl : lv_has ls 4 [(0, .ref (b + 3)), (1, .int x1), (2, .int x2)] := hl
  refine lv_aload_n hx hb dX2_canTake_0 rfl (lv_at hl 0 rfl) ?_
  obtain ⟨n_1, en_1, hk_1, hs⟩ := gkE hs
  refine gf_X2_12 C G kd_3 en_1 dX2_canTake_1 ?_
  refine gf_X2_108 C G hk_1 (n' := (n_1 + 6)) rfl dX2_canTake_4 ?_
  refine lv_iload_n hx hb dX2_canTake_7 rfl (lv_at hl 1 rfl) ?_
  obtain ⟨g_2, hs⟩ := gdE hs
  refine m_iald C G (kH6 hk_1) (lH6 hk_1) g_2 dX2_canTake_8 ?_
  refine topI hs (fun x3_3 hs => ?_)
  refine lv_istore_n (lv' := [(3, .int x3_3), (0, .ref (b + 3)), (1, .int x1), (2, .int x2)]) hx hb dX2_canTake_9 rfl hl (by decide) rfl (fun ls hl => ?_)
  refine lv_iload_n hx hb dX2_canTake_10 rfl (lv_at hl 0 rfl) ?_
  refine lv_if_eq (tgt := 34) hx hb dX2_canTake_11 (by decide) (fun c_4 => ?_) (fun c_4 => ?_)
  · replace hs := ifT c_4 hs
    exact wX2_canTake_34 C   hs G (lv_sub hl [] rfl)
  · replace hs := ifF c_4 hs
    refine lv_iload_n hx hb dX2_canTake_14 rfl (lv_at hl 0 rfl) ?_
    refine lv_iload_n hx hb dX2_canTake_15 rfl (lv_at hl 3 rfl) ?_
    refine lv_iconst (v := (-1)) hx hb dX2_canTake_16 (by decide) ?_
    refine lv_ixor hx hb dX2_canTake_17 ?_
    refine lv_iand hx hb dX2_canTake_18 ?_
    refine lv_if_ne (tgt := 34) hx hb dX2_canTake_19 (by decide) (fun c_5 => ?_) (fun c_5 => ?_)
    · replace hs := ifF c_5 hs
      exact wX2_canTake_34 C   hs G (lv_sub hl [] rfl)
    · replace hs := ifT c_5 hs
      refine lv_aload_n hx hb dX2_canTake_22 rfl (lv_at hl 1 rfl) ?_
      refine gf_X2_21 C G kd_3 (n' := 11) rfl dX2_canTake_23 ?_
      refine gf_X2_138 C G kd_11 (n' := 15) rfl dX2_canTake_26 ?_
      refine lv_iload_n hx hb dX2_canTake_29 rfl (lv_at hl 2 rfl) ?_
      obtain ⟨g_6, hs⟩ := gdE hs
      refine m_iald C G kd_15 ln_15 g_6 dX2_canTake_30 ?_
      refine lv_goto (tgt := 35) hx hb dX2_canTake_31 (by decide) ?_
      exact retI C G hs dX2_canTake_35
-- X2_taken
def rmX2_taken : Room := { frames := 2, cells := 0, slots := 0, locals := 40 }
def fX2_taken (σ : Sg) (x1 : Int32) (x2 : Int32) : Option (Int32 × Sg) :=
  bi (fX2_untold σ) (fun r_1 σ_1 => bi (fX2_canTake σ_1 x1 r_1) (fun r_2 σ_2 => some ((if r_2 < x2 then r_2 else x2), σ_2)))
set_option maxRecDepth 100000 in
set_option maxHeartbeats 4000000 in
theorem ctX2_taken (l : Launch) {D : va_G} {cI cZ cO : ClassId} {b : Nat} {σ : Sg} {x1 : Int32} {x2 : Int32} {Rr : (Int32 × Sg)} (hs : fX2_taken σ x1 x2 = some Rr) : MI l yX2_taken cX2_taken 3 (some .int) rmX2_taken [.ref (b + 3), .int x1, .int x2] b D cI cZ cO σ Rr := by
  unfold fX2_taken at hs
  refine metI (by decide +kernel) (Nat.le_of_ble_eq_true rfl) (fun p e s m below meth c ls C G hl => ?_)
  have C : Cx p s m _ meth c cX2_taken RX2 3 (some .int) D cI cZ cO := C
  have hx := C.1
  have hb := C.2.1
  have hl : lv_has ls 3 [(0, .ref (b + 3)), (1, .int x1), (2, .int x2)] := hl
  refine lv_iload_n hx hb dX2_taken_0 rfl (lv_at hl 2 rfl) ?_
  refine lv_aload_n hx hb dX2_taken_1 rfl (lv_at hl 0 rfl) ?_
  refine lv_iload_n hx hb dX2_taken_2 rfl (lv_at hl 1 rfl) ?_
  refine lv_aload_n hx hb dX2_taken_3 rfl (lv_at hl 0 rfl) ?_
  obtain ⟨r_1, σ_1, hc, hs⟩ := biE hs
  refine callVI (ar := 0) (As := []) (rest := [.int x1, .ref (b + 3), .int x2]) C G hl.1 (ctX2_untold _  hc) ⟨wd_537, wd_526, wd_527, wd_71, wd_528⟩ (by decide +kernel) rfl ⟨rfl, rfl⟩ ⟨Nat.le_of_ble_eq_true rfl, Nat.le_of_ble_eq_true rfl⟩ (kd_lt kd_3 (by decide)) (ent_2 b cI cZ cO _ kd_3) rfl (Nat.le_of_ble_eq_true rfl) ⟨Nat.le_of_ble_eq_true rfl, Nat.le_of_ble_eq_true rfl⟩ dX2_taken_4 rfl (fun H locs G => ?_)
  obtain ⟨r_2, σ_2, hc, hs⟩ := biE hs
  refine callVI (ar := 2) (As := [.int x1, .int r_1]) (rest := [.int x2]) C G hl.1 (ctX2_canTake _  hc) ⟨wd_542, wd_544, wd_10, wd_71, wd_545⟩ (by decide +kernel) rfl ⟨rfl, rfl⟩ ⟨Nat.le_of_ble_eq_true rfl, Nat.le_of_ble_eq_true rfl⟩ (kd_lt kd_3 (by decide)) (ent_2 b cI cZ cO _ kd_3) rfl (Nat.le_of_ble_eq_true rfl) ⟨Nat.le_of_ble_eq_true rfl, Nat.le_of_ble_eq_true rfl⟩ dX2_taken_7 rfl (fun H locs G => ?_)
  refine m_min C hl.1 wd_641 (Nat.le_of_ble_eq_true rfl) (Nat.le_of_ble_eq_true rfl) (Nat.le_of_ble_eq_true rfl) (Nat.le_of_ble_eq_true rfl) dX2_taken_10 ?_
  exact retI C G hs dX2_taken_13
-- J6_bitCount_0f7a4
def rmJ6_bitCount_0f7a4 : Room := { frames := 0, cells := 0, slots := 0, locals := 0 }
def fJ6_bitCount_0f7a4 (σ : Sg) (x0 : Int32) : Option (Int32 × Sg) :=
  lt (x0 - ((x0.toUInt32 >>> ((1 : Int32).toUInt32 &&& Int32.toUInt32 31)).toInt32 &&& 1431655765)) (fun x0_1 => lt ((x0_1 &&& 858993459) + ((x0_1.toUInt32 >>> ((2 : Int32).toUInt32 &&& Int32.toUInt32 31)).toInt32 &&& 858993459)) (fun x0_2 => lt ((x0_2 + (x0_2.toUInt32 >>> ((4 : Int32).toUInt32 &&& Int32.toUInt32 31)).toInt32) &&& 252645135) (fun x0_3 => lt (x0_3 + (x0_3.toUInt32 >>> ((8 : Int32).toUInt32 &&& Int32.toUInt32 31)).toInt32) (fun x0_4 => lt (x0_4 + (x0_4.toUInt32 >>> ((16 : Int32).toUInt32 &&& Int32.toUInt32 31)).toInt32) (fun x0_5 => some ((x0_5 &&& 63), σ))))))
set_option maxRecDepth 100000 in
set_option maxHeartbeats 4000000 in
theorem ctJ6_bitCount_0f7a4 (l : Launch) {D : va_G} {cI cZ cO : ClassId} {b : Nat} {σ : Sg} {x0 : Int32} {Rr : (Int32 × Sg)} (hs : fJ6_bitCount_0f7a4 σ x0 = some Rr) : MI l yJ6_bitCount_0f7a4 cJ6_bitCount_0f7a4 1 (some .int) rmJ6_bitCount_0f7a4 [.int x0] b D cI cZ cO σ Rr := by
  unfold fJ6_bitCount_0f7a4 at hs
  refine metI (by decide +kernel) (Nat.le_of_ble_eq_true rfl) (fun p e s m below meth c ls C G hl => ?_)
  have C : Cx p s m _ meth c cJ6_bitCount_0f7a4 RJ6 1 (some .int) D cI cZ cO := C
  have hx := C.1
  have hb := C.2.1
  have hl : lv_has ls 1 [(0, .int x0)] := hl
  refine lv_iload_n hx hb dJ6_bitCount_0f7a4_0 rfl (lv_at hl 0 rfl) ?_
  refine lv_iload_n hx hb dJ6_bitCount_0f7a4_1 rfl (lv_at hl 0 rfl) ?_
  refine lv_iconst (v := 1) hx hb dJ6_bitCount_0f7a4_2 (by decide) ?_
  refine lv_iushr hx hb dJ6_bitCount_0f7a4_3 rfl ?_
  refine m_ldcw C wd_704 dJ6_bitCount_0f7a4_4 ?_
  refine lv_iand hx hb dJ6_bitCount_0f7a4_7 ?_
  refine lv_isub hx hb dJ6_bitCount_0f7a4_8 ?_
  refine topI hs (fun x0_1 hs => ?_)
  refine lv_istore_n (lv' := [(0, .int x0_1)]) hx hb dJ6_bitCount_0f7a4_9 rfl hl (by decide) rfl (fun ls hl => ?_)
  refine lv_iload_n hx hb dJ6_bitCount_0f7a4_10 rfl (lv_at hl 0 rfl) ?_
  refine m_ldcw C wd_705 dJ6_bitCount_0f7a4_11 ?_
  refine lv_iand hx hb dJ6_bitCount_0f7a4_14 ?_
  refine lv_iload_n hx hb dJ6_bitCount_0f7a4_15 rfl (lv_at hl 0 rfl) ?_
  refine lv_iconst (v := 2) hx hb dJ6_bitCount_0f7a4_16 (by decide) ?_
  refine lv_iushr hx hb dJ6_bitCount_0f7a4_17 rfl ?_
  refine m_ldcw C wd_705 dJ6_bitCount_0f7a4_18 ?_
  refine lv_iand hx hb dJ6_bitCount_0f7a4_21 ?_
  refine lv_iadd hx hb dJ6_bitCount_0f7a4_22 ?_
  refine topI hs (fun x0_2 hs => ?_)
  refine lv_istore_n (lv' := [(0, .int x0_2)]) hx hb dJ6_bitCount_0f7a4_23 rfl hl (by decide) rfl (fun ls hl => ?_)
  refine lv_iload_n hx hb dJ6_bitCount_0f7a4_24 rfl (lv_at hl 0 rfl) ?_
  refine lv_iload_n hx hb dJ6_bitCount_0f7a4_25 rfl (lv_at hl 0 rfl) ?_
  refine lv_iconst (v := 4) hx hb dJ6_bitCount_0f7a4_26 (by decide) ?_
  refine lv_iushr hx hb dJ6_bitCount_0f7a4_27 rfl ?_
  refine lv_iadd hx hb dJ6_bitCount_0f7a4_28 ?_
  refine m_ldcw C wd_706 dJ6_bitCount_0f7a4_29 ?_
  refine lv_iand hx hb dJ6_bitCount_0f7a4_32 ?_
  refine topI hs (fun x0_3 hs => ?_)
  refine lv_istore_n (lv' := [(0, .int x0_3)]) hx hb dJ6_bitCount_0f7a4_33 rfl hl (by decide) rfl (fun ls hl => ?_)
  refine lv_iload_n hx hb dJ6_bitCount_0f7a4_34 rfl (lv_at hl 0 rfl) ?_
  refine lv_iload_n hx hb dJ6_bitCount_0f7a4_35 rfl (lv_at hl 0 rfl) ?_
  refine lv_bipush (v := 8) hx hb dJ6_bitCount_0f7a4_36 (by decide) ?_
  refine lv_iushr hx hb dJ6_bitCount_0f7a4_38 rfl ?_
  refine lv_iadd hx hb dJ6_bitCount_0f7a4_39 ?_
  refine topI hs (fun x0_4 hs => ?_)
  refine lv_istore_n (lv' := [(0, .int x0_4)]) hx hb dJ6_bitCount_0f7a4_40 rfl hl (by decide) rfl (fun ls hl => ?_)
  refine lv_iload_n hx hb dJ6_bitCount_0f7a4_41 rfl (lv_at hl 0 rfl) ?_
  refine lv_iload_n hx hb dJ6_bitCount_0f7a4_42 rfl (lv_at hl 0 rfl) ?_
  refine lv_bipush (v := 16) hx hb dJ6_bitCount_0f7a4_43 (by decide) ?_
  refine lv_iushr hx hb dJ6_bitCount_0f7a4_45 rfl ?_
  refine lv_iadd hx hb dJ6_bitCount_0f7a4_46 ?_
  refine topI hs (fun x0_5 hs => ?_)
  refine lv_istore_n (lv' := [(0, .int x0_5)]) hx hb dJ6_bitCount_0f7a4_47 rfl hl (by decide) rfl (fun ls hl => ?_)
  refine lv_iload_n hx hb dJ6_bitCount_0f7a4_48 rfl (lv_at hl 0 rfl) ?_
  refine lv_bipush (v := 63) hx hb dJ6_bitCount_0f7a4_49 (by decide) ?_
  refine lv_iand hx hb dJ6_bitCount_0f7a4_51 ?_
  exact retI C G hs dJ6_bitCount_0f7a4_52
-- X2_hurtVillage
def rmX2_hurtVillage : Room := { frames := 2, cells := 0, slots := 0, locals := 52 }
def fX2_hurtVillage_63 (kh : Sg → Int32 → Int32 → Int32 → Option Sg) (kx : Sg → Option Sg) (σ : Sg) (x1 : Int32) (x4 : Int32) (x5 : Int32) : Option Sg :=
  lt (x5 + 1) (fun x5_12 => kh σ x1 x4 x5_12)
set_option maxRecDepth 100000 in
set_option maxHeartbeats 4000000 in
theorem wX2_hurtVillage_63 {p : Program} {l : Launch} {e : Env} {s : State} {m : MethodId} {args : Array Value} {below : List Frame} {meth : Method} {c : Code} {D : va_G} {cI cZ cO : ClassId} {b : Nat} (C : Cx p s m args meth c cX2_hurtVillage RX2 6 none D cI cZ cO) {Rr : Sg} {kh : Sg → Int32 → Int32 → Int32 → Option Sg} {kx : Sg → Option Sg} (hh : ∀ (σ : Sg) (x1 : Int32) (x4 : Int32) (x5 : Int32) (H : Heap) (locs : List Loc) (ls : Array Slot), kh σ x1 x4 x5 = some Rr → Gd b D cI cZ cO σ s.heap H locs → lv_has ls 6 [(0, .ref (b + 3)), (1, .int x1), (4, .int x4), (5, .int x5)] → W p l e rmX2_hurtVillage s m args below meth c H locs 0 0 (MQ below (QV b D cI cZ cO Rr) args s 0 0 (fun q => b ≤ q)) (F0 m 26 ls [])) (hxx : ∀ (σ : Sg) (H : Heap) (locs : List Loc) (ls : Array Slot), kx σ = some Rr → Gd b D cI cZ cO σ s.heap H locs → lv_has ls 6 [] → W p l e rmX2_hurtVillage s m args below meth c H locs 0 0 (MQ below (QV b D cI cZ cO Rr) args s 0 0 (fun q => b ≤ q)) (F0 m 69 ls [])) {σ : Sg} {x1 : Int32} {x4 : Int32} {x5 : Int32} {H : Heap} {locs : List Loc} {ls : Array Slot} (hs : fX2_hurtVillage_63 kh kx σ x1 x4 x5 = some Rr) (G : Gd b D cI cZ cO σ s.heap H locs) (hl : lv_has ls 6 [(0, .ref (b + 3)), (1, .int x1), (4, .int x4), (5, .int x5)]) : W p l e rmX2_hurtVillage s m args below meth c H locs 0 0 (MQ below (QV b D cI cZ cO Rr) args s 0 0 (fun q => b ≤ q)) (F0 m 63 ls []) := by
  have hx := C.1
  have hb := C.2.1
  unfold fX2_hurtVillage_63 at hs
  obtain ⟨x5_12, e_12, hs⟩ := ltE hs
  refine lv_iinc (v := x5_12) (lv' := [(5, .int x5_12), (0, .ref (b + 3)), (1, .int x1), (4, .int x4)]) hx hb dX2_hurtVillage_63 hl (k := 3) rfl (by rw [e_12]; rfl) (by decide) rfl (fun ls hl => ?_)
  refine lv_goto (tgt := 26) hx hb dX2_hurtVillage_66 (by decide) ?_
  exact hh _ _ _ _ _ _ _ hs G (lv_sub hl [1, 2, 3, 0] rfl)
def fX2_hurtVillage_26b (kh : Sg → Int32 → Int32 → Int32 → Option Sg) (kx : Sg → Option Sg) (σ : Sg) (x1 : Int32) (x4 : Int32) (x5 : Int32) : Option Sg :=
  gk 4 (dn (σ 3 0)) (fun n_7 => (if (σ n_7 4) ≤ x5 then kx σ else gk 4 (dn (σ 3 0)) (fun n_9 => (if inb x5 7 then (if (σ (n_9 + 2) x5.toNatClampNeg) = x1 then bv (fX10_hurt 11 σ x5 x4) (fun σ_13 => fX2_hurtVillage_63 kh kx σ_13 x1 x4 x5) else fX2_hurtVillage_63 kh kx σ x1 x4 x5) else none))))
set_option maxRecDepth 100000 in
set_option maxHeartbeats 4000000 in
theorem wX2_hurtVillage_26b {p : Program} {l : Launch} {e : Env} {s : State} {m : MethodId} {args : Array Value} {below : List Frame} {meth : Method} {c : Code} {D : va_G} {cI cZ cO : ClassId} {b : Nat} (C : Cx p s m args meth c cX2_hurtVillage RX2 6 none D cI cZ cO) {Rr : Sg} {kh : Sg → Int32 → Int32 → Int32 → Option Sg} {kx : Sg → Option Sg} (hh : ∀ (σ : Sg) (x1 : Int32) (x4 : Int32) (x5 : Int32) (H : Heap) (locs : List Loc) (ls : Array Slot), kh σ x1 x4 x5 = some Rr → Gd b D cI cZ cO σ s.heap H locs → lv_has ls 6 [(0, .ref (b + 3)), (1, .int x1), (4, .int x4), (5, .int x5)] → W p l e rmX2_hurtVillage s m args below meth c H locs 0 0 (MQ below (QV b D cI cZ cO Rr) args s 0 0 (fun q => b ≤ q)) (F0 m 26 ls [])) (hxx : ∀ (σ : Sg) (H : Heap) (locs : List Loc) (ls : Array Slot), kx σ = some Rr → Gd b D cI cZ cO σ s.heap H locs → lv_has ls 6 [] → W p l e rmX2_hurtVillage s m args below meth c H locs 0 0 (MQ below (QV b D cI cZ cO Rr) args s 0 0 (fun q => b ≤ q)) (F0 m 69 ls [])) {σ : Sg} {x1 : Int32} {x4 : Int32} {x5 : Int32} {H : Heap} {locs : List Loc} {ls : Array Slot} (hs : fX2_hurtVillage_26b kh kx σ x1 x4 x5 = some Rr) (G : Gd b D cI cZ cO σ s.heap H locs) (hl : lv_has ls 6 [(0, .ref (b + 3)), (1, .int x1), (4, .int x4), (5, .int x5)]) : W p l e rmX2_hurtVillage s m args below meth c H locs 0 0 (MQ below (QV b D cI cZ cO Rr) args s 0 0 (fun q => b ≤ q)) (F0 m 26 ls []) := by
  have hx := C.1
  have hb := C.2.1
  unfold fX2_hurtVillage_26b at hs
  refine lv_iload hx hb dX2_hurtVillage_26 (lv_at hl 3 rfl) ?_
  refine lv_aload_n hx hb dX2_hurtVillage_28 rfl (lv_at hl 0 rfl) ?_
  obtain ⟨n_7, en_7, hk_7, hs⟩ := gkE hs
  refine gf_X2_12 C G kd_3 en_7 dX2_hurtVillage_29 ?_
  refine gf_X2_32 C G hk_7 dX2_hurtVillage_32 ?_
  refine lv_icmp_ge (tgt := 69) hx hb dX2_hurtVillage_35 (by decide) (fun c_8 => ?_) (fun c_8 => ?_)
  · replace hs := ifT c_8 hs
    exact hxx _ _ _ _ hs G (lv_sub hl [] rfl)
  · replace hs := ifF c_8 hs
    refine lv_aload_n hx hb dX2_hurtVillage_38 rfl (lv_at hl 0 rfl) ?_
    obtain ⟨n_9, en_9, hk_9, hs⟩ := gkE hs
    refine gf_X2_12 C G kd_3 en_9 dX2_hurtVillage_39 ?_
    refine gf_X2_117 C G hk_9 (n' := (n_9 + 2)) rfl dX2_hurtVillage_42 ?_
    refine lv_iload hx hb dX2_hurtVillage_45 (lv_at hl 3 rfl) ?_
    obtain ⟨g_10, hs⟩ := gdE hs
    refine m_iald C G (kH2 hk_9) (lH2 hk_9) g_10 dX2_hurtVillage_47 ?_
    refine lv_iload_n hx hb dX2_hurtVillage_48 rfl (lv_at hl 1 rfl) ?_
    refine lv_icmp_ne (tgt := 63) hx hb dX2_hurtVillage_49 (by decide) (fun c_11 => ?_) (fun c_11 => ?_)
    · replace hs := ifF c_11 hs
      exact wX2_hurtVillage_63 C  hh hxx hs G (lv_sub hl [0, 1, 2, 3] rfl)
    · replace hs := ifT c_11 hs
      refine lv_aload_n hx hb dX2_hurtVillage_52 rfl (lv_at hl 0 rfl) ?_
      refine gf_X2_21 C G kd_3 (n' := 11) rfl dX2_hurtVillage_53 ?_
      refine lv_iload hx hb dX2_hurtVillage_56 (lv_at hl 3 rfl) ?_
      refine lv_iload hx hb dX2_hurtVillage_58 (lv_at hl 2 rfl) ?_
      obtain ⟨σ_13, hc, hs⟩ := bvE hs
      refine callVV (ar := 2) (As := [.int x5, .int x4]) (rest := []) C G hl.1 (ctX10_hurt _ kd_11 hc) ⟨wd_692, wd_693, wd_694, wd_73, wd_695⟩ (by decide +kernel) rfl ⟨rfl, rfl⟩ ⟨Nat.le_of_ble_eq_true rfl, Nat.le_of_ble_eq_true rfl⟩ (kd_lt kd_11 (by decide)) (ent_10 b cI cZ cO _ kd_11) rfl (Nat.le_of_ble_eq_true rfl) ⟨Nat.le_of_ble_eq_true rfl, Nat.le_of_ble_eq_true rfl⟩ dX2_hurtVillage_60 rfl (fun H locs G => ?_)
      exact wX2_hurtVillage_63 C  hh hxx hs G (lv_sub hl [0, 1, 2, 3] rfl)
def fX2_hurtVillage_26 : Nat → (Sg → Option Sg) → Sg → Int32 → Int32 → Int32 → Option Sg
  | 0, _, _, _, _, _ => none
  | fu + 1, kx, σ, x1, x4, x5 => fX2_hurtVillage_26b (fX2_hurtVillage_26 fu kx) kx σ x1 x4 x5
theorem fX2_hurtVillage_26_s (fu : Nat) (kx : Sg → Option Sg) (σ : Sg) (x1 : Int32) (x4 : Int32) (x5 : Int32) : fX2_hurtVillage_26 (fu + 1) kx σ x1 x4 x5 = fX2_hurtVillage_26b (fX2_hurtVillage_26 fu kx) kx σ x1 x4 x5 := by rw [fX2_hurtVillage_26]
theorem wX2_hurtVillage_26 {p : Program} {l : Launch} {e : Env} {s : State} {m : MethodId} {args : Array Value} {below : List Frame} {meth : Method} {c : Code} {D : va_G} {cI cZ cO : ClassId} {b : Nat} (C : Cx p s m args meth c cX2_hurtVillage RX2 6 none D cI cZ cO) {Rr : Sg} {kx : Sg → Option Sg} (hxx : ∀ (σ : Sg) (H : Heap) (locs : List Loc) (ls : Array Slot), kx σ = some Rr → Gd b D cI cZ cO σ s.heap H locs → lv_has ls 6 [] → W p l e rmX2_hurtVillage s m args below meth c H locs 0 0 (MQ below (QV b D cI cZ cO Rr) args s 0 0 (fun q => b ≤ q)) (F0 m 69 ls [])) : ∀ (fu : Nat) (σ : Sg) (x1 : Int32) (x4 : Int32) (x5 : Int32) (H : Heap) (locs : List Loc) (ls : Array Slot), fX2_hurtVillage_26 fu kx σ x1 x4 x5 = some Rr → Gd b D cI cZ cO σ s.heap H locs → lv_has ls 6 [(0, .ref (b + 3)), (1, .int x1), (4, .int x4), (5, .int x5)] → W p l e rmX2_hurtVillage s m args below meth c H locs 0 0 (MQ below (QV b D cI cZ cO Rr) args s 0 0 (fun q => b ≤ q)) (F0 m 26 ls []) := by
  intro fu
  induction fu with
  | zero => intro σ x1 x4 x5 H locs ls hs; cases hs
  | succ fu ih =>
    intro σ x1 x4 x5 H locs ls hs G hl
    exact wX2_hurtVillage_26b C (fun σ x1 x4 x5 H locs ls hs G hl => ih σ x1 x4 x5 H locs ls hs G hl) hxx hs G hl
def fX2_hurtVillage (σ : Sg) (x1 : Int32) (x2 : Int32) : Option Sg :=
  gk 4 (dn (σ 3 0)) (fun n_1 => (if inb x1 4 then bi (fJ6_bitCount_0f7a4 σ (σ (n_1 + 6) x1.toNatClampNeg)) (fun r_3 σ_3 => (if r_3 = 0 then some σ_3 else (if ¬ r_3 = 0 then lt (x2 / r_3) (fun x4_6 => fX2_hurtVillage_26 FU (fun σ_14 => some σ_14) σ_3 x1 x4_6 0) else none))) else none))
set_option maxRecDepth 100000 in
set_option maxHeartbeats 4000000 in
theorem ctX2_hurtVillage (l : Launch) {D : va_G} {cI cZ cO : ClassId} {b : Nat} {σ : Sg} {x1 : Int32} {x2 : Int32} {Rr : Sg} (hs : fX2_hurtVillage σ x1 x2 = some Rr) : MV l yX2_hurtVillage cX2_hurtVillage 6 rmX2_hurtVillage [.ref (b + 3), .int x1, .int x2] b D cI cZ cO σ Rr := by
  unfold fX2_hurtVillage at hs
  refine metV (by decide +kernel) (Nat.le_of_ble_eq_true rfl) (fun p e s m below meth c ls C G hl => ?_)
  have C : Cx p s m _ meth c cX2_hurtVillage RX2 6 none D cI cZ cO := C
  have hx := C.1
  have hb := C.2.1
  have hl : lv_has ls 6 [(0, .ref (b + 3)), (1, .int x1), (2, .int x2)] := hl
  refine lv_aload_n hx hb dX2_hurtVillage_0 rfl (lv_at hl 0 rfl) ?_
  obtain ⟨n_1, en_1, hk_1, hs⟩ := gkE hs
  refine gf_X2_12 C G kd_3 en_1 dX2_hurtVillage_1 ?_
  refine gf_X2_108 C G hk_1 (n' := (n_1 + 6)) rfl dX2_hurtVillage_4 ?_
  refine lv_iload_n hx hb dX2_hurtVillage_7 rfl (lv_at hl 1 rfl) ?_
  obtain ⟨g_2, hs⟩ := gdE hs
  refine m_iald C G (kH6 hk_1) (lH6 hk_1) g_2 dX2_hurtVillage_8 ?_
  obtain ⟨r_3, σ_3, hc, hs⟩ := biE hs
  refine callSI (ar := 1) (As := [.int (σ (n_1 + 6) x1.toNatClampNeg)]) (rest := []) C G hl.1 (ctJ6_bitCount_0f7a4 _  hc) ⟨wd_701, wd_702, wd_85, wd_703⟩ (by decide +kernel) rfl ⟨rfl, rfl⟩ ⟨Nat.le_of_ble_eq_true rfl, Nat.le_of_ble_eq_true rfl⟩ (Nat.le_of_ble_eq_true rfl) ⟨Nat.le_of_ble_eq_true rfl, Nat.le_of_ble_eq_true rfl⟩ dX2_hurtVillage_9 rfl (fun H locs G => ?_)
  refine lv_istore_n (lv' := [(3, .int r_3), (0, .ref (b + 3)), (1, .int x1), (2, .int x2)]) hx hb dX2_hurtVillage_12 rfl hl (by decide) rfl (fun ls hl => ?_)
  refine lv_iload_n hx hb dX2_hurtVillage_13 rfl (lv_at hl 0 rfl) ?_
  refine lv_if_ne (tgt := 18) hx hb dX2_hurtVillage_14 (by decide) (fun c_4 => ?_) (fun c_4 => ?_)
  · replace hs := ifF c_4 hs
    refine lv_iload_n hx hb dX2_hurtVillage_18 rfl (lv_at hl 3 rfl) ?_
    refine lv_iload_n hx hb dX2_hurtVillage_19 rfl (lv_at hl 0 rfl) ?_
    obtain ⟨g_5, hs⟩ := gdE hs
    refine lv_idiv hx hb dX2_hurtVillage_20 g_5 ?_
    refine topI hs (fun x4_6 hs => ?_)
    refine lv_istore (lv' := [(4, .int x4_6), (3, .int r_3), (0, .ref (b + 3)), (1, .int x1), (2, .int x2)]) hx hb dX2_hurtVillage_21 hl (by decide) rfl (fun ls hl => ?_)
    refine lv_iconst (v := 0) hx hb dX2_hurtVillage_23 (by decide) ?_
    refine lv_istore (lv' := [(5, .int 0), (4, .int x4_6), (3, .int r_3), (0, .ref (b + 3)), (1, .int x1), (2, .int x2)]) hx hb dX2_hurtVillage_24 hl (by decide) rfl (fun ls hl => ?_)
    refine wX2_hurtVillage_26 C (fun σ_14 H locs ls hs G hl => ?_) FU _ _ _ _ _ _ _ hs G (lv_sub hl [3, 4, 1, 0] rfl)
    exact retV C G hs dX2_hurtVillage_69
  · replace hs := ifT c_4 hs
    exact retV C G hs dX2_hurtVillage_17
-- X2_passYear
def rmX2_passYear : Room := { frames := 3, cells := 0, slots := 0, locals := 77 }
def fX2_passYear_2b (kh : Sg → Int32 → Option Sg) (kx : Sg → Option Sg) (σ : Sg) (x1 : Int32) : Option Sg :=
  gk 4 (dn (σ 3 0)) (fun n_1 => (if (σ n_1 4) ≤ x1 then kx σ else (if inb x1 7 then bv (fX10_hurt 11 σ x1 (σ 12 x1.toNatClampNeg)) (fun σ_4 => (if inb x1 7 then lt (st σ_4 12 x1.toNatClampNeg 0) (fun σ_5 => lt (x1 + 1) (fun x1_6 => kh σ_5 x1_6)) else none)) else none)))
set_option maxRecDepth 100000 in
set_option maxHeartbeats 4000000 in
theorem wX2_passYear_2b {p : Program} {l : Launch} {e : Env} {s : State} {m : MethodId} {args : Array Value} {below : List Frame} {meth : Method} {c : Code} {D : va_G} {cI cZ cO : ClassId} {b : Nat} (C : Cx p s m args meth c cX2_passYear RX2 3 none D cI cZ cO) {Rr : Sg} {kh : Sg → Int32 → Option Sg} {kx : Sg → Option Sg} (hh : ∀ (σ : Sg) (x1 : Int32) (H : Heap) (locs : List Loc) (ls : Array Slot), kh σ x1 = some Rr → Gd b D cI cZ cO σ s.heap H locs → lv_has ls 3 [(0, .ref (b + 3)), (1, .int x1)] → W p l e rmX2_passYear s m args below meth c H locs 0 0 (MQ below (QV b D cI cZ cO Rr) args s 0 0 (fun q => b ≤ q)) (F0 m 2 ls [])) (hxx : ∀ (σ : Sg) (H : Heap) (locs : List Loc) (ls : Array Slot), kx σ = some Rr → Gd b D cI cZ cO σ s.heap H locs → lv_has ls 3 [(0, .ref (b + 3))] → W p l e rmX2_passYear s m args below meth c H locs 0 0 (MQ below (QV b D cI cZ cO Rr) args s 0 0 (fun q => b ≤ q)) (F0 m 46 ls [])) {σ : Sg} {x1 : Int32} {H : Heap} {locs : List Loc} {ls : Array Slot} (hs : fX2_passYear_2b kh kx σ x1 = some Rr) (G : Gd b D cI cZ cO σ s.heap H locs) (hl : lv_has ls 3 [(0, .ref (b + 3)), (1, .int x1)]) : W p l e rmX2_passYear s m args below meth c H locs 0 0 (MQ below (QV b D cI cZ cO Rr) args s 0 0 (fun q => b ≤ q)) (F0 m 2 ls []) := by
  have hx := C.1
  have hb := C.2.1
  unfold fX2_passYear_2b at hs
  refine lv_iload_n hx hb dX2_passYear_2 rfl (lv_at hl 1 rfl) ?_
  refine lv_aload_n hx hb dX2_passYear_3 rfl (lv_at hl 0 rfl) ?_
  obtain ⟨n_1, en_1, hk_1, hs⟩ := gkE hs
  refine gf_X2_12 C G kd_3 en_1 dX2_passYear_4 ?_
  refine gf_X2_32 C G hk_1 dX2_passYear_7 ?_
  refine lv_icmp_ge (tgt := 46) hx hb dX2_passYear_10 (by decide) (fun c_2 => ?_) (fun c_2 => ?_)
  · replace hs := ifT c_2 hs
    exact hxx _ _ _ _ hs G (lv_sub hl [0] rfl)
  · replace hs := ifF c_2 hs
    refine lv_aload_n hx hb dX2_passYear_13 rfl (lv_at hl 0 rfl) ?_
    refine gf_X2_21 C G kd_3 (n' := 11) rfl dX2_passYear_14 ?_
    refine lv_iload_n hx hb dX2_passYear_17 rfl (lv_at hl 1 rfl) ?_
    refine lv_aload_n hx hb dX2_passYear_18 rfl (lv_at hl 0 rfl) ?_
    refine gf_X2_21 C G kd_3 (n' := 11) rfl dX2_passYear_19 ?_
    refine gf_X2_46 C G kd_11 (n' := 12) rfl dX2_passYear_22 ?_
    refine lv_iload_n hx hb dX2_passYear_25 rfl (lv_at hl 1 rfl) ?_
    obtain ⟨g_3, hs⟩ := gdE hs
    refine m_iald C G kd_12 ln_12 g_3 dX2_passYear_26 ?_
    obtain ⟨σ_4, hc, hs⟩ := bvE hs
    refine callVV (ar := 2) (As := [.int x1, .int (σ 12 x1.toNatClampNeg)]) (rest := []) C G hl.1 (ctX10_hurt _ kd_11 hc) ⟨wd_692, wd_693, wd_694, wd_73, wd_695⟩ (by decide +kernel) rfl ⟨rfl, rfl⟩ ⟨Nat.le_of_ble_eq_true rfl, Nat.le_of_ble_eq_true rfl⟩ (kd_lt kd_11 (by decide)) (ent_10 b cI cZ cO _ kd_11) rfl (Nat.le_of_ble_eq_true rfl) ⟨Nat.le_of_ble_eq_true rfl, Nat.le_of_ble_eq_true rfl⟩ dX2_passYear_27 rfl (fun H locs G => ?_)
    refine lv_aload_n hx hb dX2_passYear_30 rfl (lv_at hl 0 rfl) ?_
    refine gf_X2_21 C G kd_3 (n' := 11) rfl dX2_passYear_31 ?_
    refine gf_X2_46 C G kd_11 (n' := 12) rfl dX2_passYear_34 ?_
    refine lv_iload_n hx hb dX2_passYear_37 rfl (lv_at hl 1 rfl) ?_
    refine lv_iconst (v := 0) hx hb dX2_passYear_38 (by decide) ?_
    obtain ⟨g_5, hs⟩ := gdE hs
    refine m_iast C G kd_12 ln_12 g_5 hs dX2_passYear_39 (fun σ_5 H locs hs G => ?_)
    obtain ⟨x1_6, e_6, hs⟩ := ltE hs
    refine lv_iinc (v := x1_6) (lv' := [(1, .int x1_6), (0, .ref (b + 3))]) hx hb dX2_passYear_40 hl (k := 1) rfl (by rw [e_6]; rfl) (by decide) rfl (fun ls hl => ?_)
    refine lv_goto (tgt := 2) hx hb dX2_passYear_43 (by decide) ?_
    exact hh _ _ _ _ _ hs G (lv_sub hl [1, 0] rfl)
def fX2_passYear_2 : Nat → (Sg → Option Sg) → Sg → Int32 → Option Sg
  | 0, _, _, _ => none
  | fu + 1, kx, σ, x1 => fX2_passYear_2b (fX2_passYear_2 fu kx) kx σ x1
theorem fX2_passYear_2_s (fu : Nat) (kx : Sg → Option Sg) (σ : Sg) (x1 : Int32) : fX2_passYear_2 (fu + 1) kx σ x1 = fX2_passYear_2b (fX2_passYear_2 fu kx) kx σ x1 := by rw [fX2_passYear_2]
theorem wX2_passYear_2 {p : Program} {l : Launch} {e : Env} {s : State} {m : MethodId} {args : Array Value} {below : List Frame} {meth : Method} {c : Code} {D : va_G} {cI cZ cO : ClassId} {b : Nat} (C : Cx p s m args meth c cX2_passYear RX2 3 none D cI cZ cO) {Rr : Sg} {kx : Sg → Option Sg} (hxx : ∀ (σ : Sg) (H : Heap) (locs : List Loc) (ls : Array Slot), kx σ = some Rr → Gd b D cI cZ cO σ s.heap H locs → lv_has ls 3 [(0, .ref (b + 3))] → W p l e rmX2_passYear s m args below meth c H locs 0 0 (MQ below (QV b D cI cZ cO Rr) args s 0 0 (fun q => b ≤ q)) (F0 m 46 ls [])) : ∀ (fu : Nat) (σ : Sg) (x1 : Int32) (H : Heap) (locs : List Loc) (ls : Array Slot), fX2_passYear_2 fu kx σ x1 = some Rr → Gd b D cI cZ cO σ s.heap H locs → lv_has ls 3 [(0, .ref (b + 3)), (1, .int x1)] → W p l e rmX2_passYear s m args below meth c H locs 0 0 (MQ below (QV b D cI cZ cO Rr) args s 0 0 (fun q => b ≤ q)) (F0 m 2 ls []) := by
  intro fu
  induction fu with
  | zero => intro σ x1 H locs ls hs; cases hs
  | succ fu ih =>
    intro σ x1 H locs ls hs G hl
    exact wX2_passYear_2b C (fun σ x1 H locs ls hs G hl => ih σ x1 H locs ls hs G hl) hxx hs G hl
def fX2_passYear_48b (kh : Sg → Int32 → Option Sg) (kx : Sg → Option Sg) (σ : Sg) (x1 : Int32) : Option Sg :=
  gk 4 (dn (σ 3 0)) (fun n_8 => (if (σ n_8 3) ≤ x1 then kx σ else bi (fX2_taken σ x1 (σ 11 1)) (fun r_10 σ_10 => bv (fX2_hurtVillage σ_10 x1 r_10) (fun σ_11 => lt (st σ_11 11 1 ((σ_11 11 1) - r_10)) (fun σ_12 => lt (x1 + 1) (fun x1_13 => kh σ_12 x1_13))))))
set_option maxRecDepth 100000 in
set_option maxHeartbeats 4000000 in
theorem wX2_passYear_48b {p : Program} {l : Launch} {e : Env} {s : State} {m : MethodId} {args : Array Value} {below : List Frame} {meth : Method} {c : Code} {D : va_G} {cI cZ cO : ClassId} {b : Nat} (C : Cx p s m args meth c cX2_passYear RX2 3 none D cI cZ cO) {Rr : Sg} {kh : Sg → Int32 → Option Sg} {kx : Sg → Option Sg} (hh : ∀ (σ : Sg) (x1 : Int32) (H : Heap) (locs : List Loc) (ls : Array Slot), kh σ x1 = some Rr → Gd b D cI cZ cO σ s.heap H locs → lv_has ls 3 [(0, .ref (b + 3)), (1, .int x1)] → W p l e rmX2_passYear s m args below meth c H locs 0 0 (MQ below (QV b D cI cZ cO Rr) args s 0 0 (fun q => b ≤ q)) (F0 m 48 ls [])) (hxx : ∀ (σ : Sg) (H : Heap) (locs : List Loc) (ls : Array Slot), kx σ = some Rr → Gd b D cI cZ cO σ s.heap H locs → lv_has ls 3 [(0, .ref (b + 3))] → W p l e rmX2_passYear s m args below meth c H locs 0 0 (MQ below (QV b D cI cZ cO Rr) args s 0 0 (fun q => b ≤ q)) (F0 m 97 ls [])) {σ : Sg} {x1 : Int32} {H : Heap} {locs : List Loc} {ls : Array Slot} (hs : fX2_passYear_48b kh kx σ x1 = some Rr) (G : Gd b D cI cZ cO σ s.heap H locs) (hl : lv_has ls 3 [(0, .ref (b + 3)), (1, .int x1)]) : W p l e rmX2_passYear s m args below meth c H locs 0 0 (MQ below (QV b D cI cZ cO Rr) args s 0 0 (fun q => b ≤ q)) (F0 m 48 ls []) := by
  have hx := C.1
  have hb := C.2.1
  unfold fX2_passYear_48b at hs
  refine lv_iload_n hx hb dX2_passYear_48 rfl (lv_at hl 1 rfl) ?_
  refine lv_aload_n hx hb dX2_passYear_49 rfl (lv_at hl 0 rfl) ?_
  obtain ⟨n_8, en_8, hk_8, hs⟩ := gkE hs
  refine gf_X2_12 C G kd_3 en_8 dX2_passYear_50 ?_
  refine gf_X2_36 C G hk_8 dX2_passYear_53 ?_
  refine lv_icmp_ge (tgt := 97) hx hb dX2_passYear_56 (by decide) (fun c_9 => ?_) (fun c_9 => ?_)
  · replace hs := ifT c_9 hs
    exact hxx _ _ _ _ hs G (lv_sub hl [0] rfl)
  · replace hs := ifF c_9 hs
    refine lv_aload_n hx hb dX2_passYear_59 rfl (lv_at hl 0 rfl) ?_
    refine lv_iload_n hx hb dX2_passYear_60 rfl (lv_at hl 1 rfl) ?_
    refine lv_aload_n hx hb dX2_passYear_61 rfl (lv_at hl 0 rfl) ?_
    refine gf_X2_21 C G kd_3 (n' := 11) rfl dX2_passYear_62 ?_
    refine gf_X2_89 C G kd_11 dX2_passYear_65 ?_
    obtain ⟨r_10, σ_10, hc, hs⟩ := biE hs
    refine callVI (ar := 2) (As := [.int x1, .int (σ 11 1)]) (rest := []) C G hl.1 (ctX2_taken _  hc) ⟨wd_637, wd_639, wd_14, wd_71, wd_640⟩ (by decide +kernel) rfl ⟨rfl, rfl⟩ ⟨Nat.le_of_ble_eq_true rfl, Nat.le_of_ble_eq_true rfl⟩ (kd_lt kd_3 (by decide)) (ent_2 b cI cZ cO _ kd_3) rfl (Nat.le_of_ble_eq_true rfl) ⟨Nat.le_of_ble_eq_true rfl, Nat.le_of_ble_eq_true rfl⟩ dX2_passYear_68 rfl (fun H locs G => ?_)
    refine lv_istore_n (lv' := [(2, .int r_10), (0, .ref (b + 3)), (1, .int x1)]) hx hb dX2_passYear_71 rfl hl (by decide) rfl (fun ls hl => ?_)
    refine lv_aload_n hx hb dX2_passYear_72 rfl (lv_at hl 1 rfl) ?_
    refine lv_iload_n hx hb dX2_passYear_73 rfl (lv_at hl 2 rfl) ?_
    refine lv_iload_n hx hb dX2_passYear_74 rfl (lv_at hl 0 rfl) ?_
    obtain ⟨σ_11, hc, hs⟩ := bvE hs
    refine callVV (ar := 2) (As := [.int x1, .int r_10]) (rest := []) C G hl.1 (ctX2_hurtVillage _  hc) ⟨wd_697, wd_699, wd_16, wd_71, wd_700⟩ (by decide +kernel) rfl ⟨rfl, rfl⟩ ⟨Nat.le_of_ble_eq_true rfl, Nat.le_of_ble_eq_true rfl⟩ (kd_lt kd_3 (by decide)) (ent_2 b cI cZ cO _ kd_3) rfl (Nat.le_of_ble_eq_true rfl) ⟨Nat.le_of_ble_eq_true rfl, Nat.le_of_ble_eq_true rfl⟩ dX2_passYear_75 rfl (fun H locs G => ?_)
    refine lv_aload_n hx hb dX2_passYear_78 rfl (lv_at hl 1 rfl) ?_
    refine gf_X2_21 C G kd_3 (n' := 11) rfl dX2_passYear_79 ?_
    refine lv_dup hx hb dX2_passYear_82 rfl ?_
    refine gf_X2_89 C G kd_11 dX2_passYear_83 ?_
    refine lv_iload_n hx hb dX2_passYear_86 rfl (lv_at hl 0 rfl) ?_
    refine lv_isub hx hb dX2_passYear_87 ?_
    refine pf_X2_89 C G kd_11 hs dX2_passYear_88 (fun σ_12 H locs hs G => ?_)
    obtain ⟨x1_13, e_13, hs⟩ := ltE hs
    refine lv_iinc (v := x1_13) (lv' := [(1, .int x1_13), (2, .int r_10), (0, .ref (b + 3))]) hx hb dX2_passYear_91 hl (k := 2) rfl (by rw [e_13]; rfl) (by decide) rfl (fun ls hl => ?_)
    refine lv_goto (tgt := 48) hx hb dX2_passYear_94 (by decide) ?_
    exact hh _ _ _ _ _ hs G (lv_sub hl [2, 0] rfl)
def fX2_passYear_48 : Nat → (Sg → Option Sg) → Sg → Int32 → Option Sg
  | 0, _, _, _ => none
  | fu + 1, kx, σ, x1 => fX2_passYear_48b (fX2_passYear_48 fu kx) kx σ x1
theorem fX2_passYear_48_s (fu : Nat) (kx : Sg → Option Sg) (σ : Sg) (x1 : Int32) : fX2_passYear_48 (fu + 1) kx σ x1 = fX2_passYear_48b (fX2_passYear_48 fu kx) kx σ x1 := by rw [fX2_passYear_48]
theorem wX2_passYear_48 {p : Program} {l : Launch} {e : Env} {s : State} {m : MethodId} {args : Array Value} {below : List Frame} {meth : Method} {c : Code} {D : va_G} {cI cZ cO : ClassId} {b : Nat} (C : Cx p s m args meth c cX2_passYear RX2 3 none D cI cZ cO) {Rr : Sg} {kx : Sg → Option Sg} (hxx : ∀ (σ : Sg) (H : Heap) (locs : List Loc) (ls : Array Slot), kx σ = some Rr → Gd b D cI cZ cO σ s.heap H locs → lv_has ls 3 [(0, .ref (b + 3))] → W p l e rmX2_passYear s m args below meth c H locs 0 0 (MQ below (QV b D cI cZ cO Rr) args s 0 0 (fun q => b ≤ q)) (F0 m 97 ls [])) : ∀ (fu : Nat) (σ : Sg) (x1 : Int32) (H : Heap) (locs : List Loc) (ls : Array Slot), fX2_passYear_48 fu kx σ x1 = some Rr → Gd b D cI cZ cO σ s.heap H locs → lv_has ls 3 [(0, .ref (b + 3)), (1, .int x1)] → W p l e rmX2_passYear s m args below meth c H locs 0 0 (MQ below (QV b D cI cZ cO Rr) args s 0 0 (fun q => b ≤ q)) (F0 m 48 ls []) := by
  intro fu
  induction fu with
  | zero => intro σ x1 H locs ls hs; cases hs
  | succ fu ih =>
    intro σ x1 H locs ls hs G hl
    exact wX2_passYear_48b C (fun σ x1 H locs ls hs G hl => ih σ x1 H locs ls hs G hl) hxx hs G hl
def fX2_passYear (σ : Sg) : Option Sg :=
  fX2_passYear_2 FU (fun σ_7 => fX2_passYear_48 FU (fun σ_14 => lt (st σ_14 11 3 0) (fun σ_15 => lt (st σ_15 11 4 0) (fun σ_16 => gk 4 (dn (σ_16 3 0)) (fun n_17 => lt (st σ_16 11 0 (σ_16 n_17 1)) (fun σ_18 => lt (st σ_18 11 2 ((σ_18 11 2) + 1)) (fun σ_19 => some σ_19)))))) σ_7 0) σ 0
set_option maxRecDepth 100000 in
set_option maxHeartbeats 4000000 in
theorem ctX2_passYear (l : Launch) {D : va_G} {cI cZ cO : ClassId} {b : Nat} {σ : Sg} {Rr : Sg} (hs : fX2_passYear σ = some Rr) : MV l yX2_passYear cX2_passYear 3 rmX2_passYear [.ref (b + 3)] b D cI cZ cO σ Rr := by
  unfold fX2_passYear at hs
  refine metV (by decide +kernel) (Nat.le_of_ble_eq_true rfl) (fun p e s m below meth c ls C G hl => ?_)
  have C : Cx p s m _ meth c cX2_passYear RX2 3 none D cI cZ cO := C
  have hx := C.1
  have hb := C.2.1
  have hl : lv_has ls 3 [(0, .ref (b + 3))] := hl
  refine lv_iconst (v := 0) hx hb dX2_passYear_0 (by decide) ?_
  refine lv_istore_n (lv' := [(1, .int 0), (0, .ref (b + 3))]) hx hb dX2_passYear_1 rfl hl (by decide) rfl (fun ls hl => ?_)
  refine wX2_passYear_2 C (fun σ_7 H locs ls hs G hl => ?_) FU _ _ _ _ _ hs G (lv_sub hl [1, 0] rfl)
  refine lv_iconst (v := 0) hx hb dX2_passYear_46 (by decide) ?_
  refine lv_istore_n (lv' := [(1, .int 0), (0, .ref (b + 3))]) hx hb dX2_passYear_47 rfl hl (by decide) rfl (fun ls hl => ?_)
  refine wX2_passYear_48 C (fun σ_14 H locs ls hs G hl => ?_) FU _ _ _ _ _ hs G (lv_sub hl [1, 0] rfl)
  refine lv_aload_n hx hb dX2_passYear_97 rfl (lv_at hl 0 rfl) ?_
  refine gf_X2_21 C G kd_3 (n' := 11) rfl dX2_passYear_98 ?_
  refine lv_iconst (v := 0) hx hb dX2_passYear_101 (by decide) ?_
  refine pf_X2_43 C G kd_11 hs dX2_passYear_102 (fun σ_15 H locs hs G => ?_)
  refine lv_aload_n hx hb dX2_passYear_105 rfl (lv_at hl 0 rfl) ?_
  refine gf_X2_21 C G kd_3 (n' := 11) rfl dX2_passYear_106 ?_
  refine lv_iconst (v := 0) hx hb dX2_passYear_109 (by decide) ?_
  refine pf_X2_50 C G kd_11 hs dX2_passYear_110 (fun σ_16 H locs hs G => ?_)
  refine lv_aload_n hx hb dX2_passYear_113 rfl (lv_at hl 0 rfl) ?_
  refine gf_X2_21 C G kd_3 (n' := 11) rfl dX2_passYear_114 ?_
  refine lv_aload_n hx hb dX2_passYear_117 rfl (lv_at hl 0 rfl) ?_
  obtain ⟨n_17, en_17, hk_17, hs⟩ := gkE hs
  refine gf_X2_12 C G kd_3 en_17 dX2_passYear_118 ?_
  refine gf_X2_104 C G hk_17 dX2_passYear_121 ?_
  refine pf_X2_63 C G kd_11 hs dX2_passYear_124 (fun σ_18 H locs hs G => ?_)
  refine lv_aload_n hx hb dX2_passYear_127 rfl (lv_at hl 0 rfl) ?_
  refine gf_X2_21 C G kd_3 (n' := 11) rfl dX2_passYear_128 ?_
  refine lv_dup hx hb dX2_passYear_131 rfl ?_
  refine gf_X2_105 C G kd_11 dX2_passYear_132 ?_
  refine lv_iconst (v := 1) hx hb dX2_passYear_135 (by decide) ?_
  refine lv_iadd hx hb dX2_passYear_136 ?_
  refine pf_X2_105 C G kd_11 hs dX2_passYear_137 (fun σ_19 H locs hs G => ?_)
  exact retV C G hs dX2_passYear_140
-- X3_next
def rmX3_next : Room := { frames := 0, cells := 0, slots := 0, locals := 0 }
def fX3_next (σ : Sg) (x1 : Int32) : Option (Int32 × Sg) :=
  lt (st σ 113 0 (((((σ 113 0).toInt64 * 1103515245) + 12345) &&& 2147483647).toInt32)) (fun σ_1 => (if x1 ≤ 0 then some (0, σ_1) else (if ¬ x1 = 0 then some ((((σ_1 113 0) / 65536) - ((σ_1 113 0) / 65536) / x1 * x1), σ_1) else none)))
set_option maxRecDepth 100000 in
set_option maxHeartbeats 4000000 in
theorem ctX3_next (l : Launch) {D : va_G} {cI cZ cO : ClassId} {b : Nat} {σ : Sg} {x1 : Int32} {Rr : (Int32 × Sg)} (hs : fX3_next σ x1 = some Rr) : MI l yX3_next cX3_next 2 (some .int) rmX3_next [.ref (b + 113), .int x1] b D cI cZ cO σ Rr := by
  unfold fX3_next at hs
  refine metI (by decide +kernel) (Nat.le_of_ble_eq_true rfl) (fun p e s m below meth c ls C G hl => ?_)
  have C : Cx p s m _ meth c cX3_next RX3 2 (some .int) D cI cZ cO := C
  have hx := C.1
  have hb := C.2.1
  have hl : lv_has ls 2 [(0, .ref (b + 113)), (1, .int x1)] := hl
  refine lv_aload_n hx hb dX3_next_0 rfl (lv_at hl 0 rfl) ?_
  refine lv_aload_n hx hb dX3_next_1 rfl (lv_at hl 0 rfl) ?_
  refine gf_X3_7 C G kd_113 dX3_next_2 ?_
  refine lv_i2l hx hb dX3_next_5 rfl ?_
  refine m_ldc2 C wd_727 dX3_next_6 ?_
  refine lv_lmul hx hb dX3_next_9 ?_
  refine m_ldc2 C wd_728 dX3_next_10 ?_
  refine lv_ladd hx hb dX3_next_13 ?_
  refine m_ldc2 C wd_729 dX3_next_14 ?_
  refine lv_land hx hb dX3_next_17 ?_
  refine lv_l2i hx hb dX3_next_18 rfl ?_
  refine pf_X3_7 C G kd_113 hs dX3_next_19 (fun σ_1 H locs hs G => ?_)
  refine lv_iload_n hx hb dX3_next_22 rfl (lv_at hl 1 rfl) ?_
  refine lv_if_le (tgt := 38) hx hb dX3_next_23 (by decide) (fun c_2 => ?_) (fun c_2 => ?_)
  · replace hs := ifT c_2 hs
    refine lv_iconst (v := 0) hx hb dX3_next_38 (by decide) ?_
    exact retI C G hs dX3_next_39
  · replace hs := ifF c_2 hs
    refine lv_aload_n hx hb dX3_next_26 rfl (lv_at hl 0 rfl) ?_
    refine gf_X3_7 C G kd_113 dX3_next_27 ?_
    refine m_ldc C wd_730 dX3_next_30 ?_
    refine lv_idiv hx hb dX3_next_32 (by decide) ?_
    refine lv_iload_n hx hb dX3_next_33 rfl (lv_at hl 1 rfl) ?_
    obtain ⟨g_3, hs⟩ := gdE hs
    refine lv_irem hx hb dX3_next_34 g_3 ?_
    refine lv_goto (tgt := 39) hx hb dX3_next_35 (by decide) ?_
    exact retI C G hs dX3_next_39
-- X2_actByDraws
def rmX2_actByDraws : Room := { frames := 5, cells := 0, slots := 0, locals := 125 }
def fX2_actByDraws (σ : Sg) : Option Sg :=
  gk 4 (dn (σ 3 0)) (fun n_1 => (if (σ n_1 4) = 0 then some σ else bi (fX3_next σ 4) (fun r_3 σ_3 => gk 4 (dn (σ_3 3 0)) (fun n_4 => bi (fX3_next σ_3 (σ_3 n_4 4)) (fun r_5 σ_5 => bi (fX3_next σ_5 100) (fun r_6 σ_6 => bi (fX2_isPerson σ_6 r_5) (fun r_7 σ_7 => (if r_7 = 0 then some σ_7 else (if 1 < r_3 then (if r_3 = 3 then (if inb r_5 7 then lt (st σ_7 14 r_5.toNatClampNeg ((r_6 - r_6 / 9 * 9) + 1)) (fun σ_14 => some σ_14) else none) else bi (fX2_canAnswer σ_7 r_5 r_5) (fun r_11 σ_11 => (if r_11 = 0 then some σ_11 else bv (fX2_answerBack σ_11 r_5 r_5) (fun σ_13 => some σ_13)))) else bv (fX2_foretell σ_7 r_5 r_6) (fun σ_15 => some σ_15))))))))))
set_option maxRecDepth 100000 in
set_option maxHeartbeats 4000000 in
theorem ctX2_actByDraws (l : Launch) {D : va_G} {cI cZ cO : ClassId} {b : Nat} {σ : Sg} {Rr : Sg} (hs : fX2_actByDraws σ = some Rr) : MV l yX2_actByDraws cX2_actByDraws 5 rmX2_actByDraws [.ref (b + 3), .ref (b + 113)] b D cI cZ cO σ Rr := by
  unfold fX2_actByDraws at hs
  refine metV (by decide +kernel) (Nat.le_of_ble_eq_true rfl) (fun p e s m below meth c ls C G hl => ?_)
  have C : Cx p s m _ meth c cX2_actByDraws RX2 5 none D cI cZ cO := C
  have hx := C.1
  have hb := C.2.1
  have hl : lv_has ls 5 [(0, .ref (b + 3)), (1, .ref (b + 113))] := hl
  refine lv_aload_n hx hb dX2_actByDraws_0 rfl (lv_at hl 0 rfl) ?_
  obtain ⟨n_1, en_1, hk_1, hs⟩ := gkE hs
  refine gf_X2_12 C G kd_3 en_1 dX2_actByDraws_1 ?_
  refine gf_X2_32 C G hk_1 dX2_actByDraws_4 ?_
  refine lv_if_ne (tgt := 11) hx hb dX2_actByDraws_7 (by decide) (fun c_2 => ?_) (fun c_2 => ?_)
  · replace hs := ifF c_2 hs
    refine lv_aload_n hx hb dX2_actByDraws_11 rfl (lv_at hl 1 rfl) ?_
    refine lv_iconst (v := 4) hx hb dX2_actByDraws_12 (by decide) ?_
    obtain ⟨r_3, σ_3, hc, hs⟩ := biE hs
    refine callVI (ar := 1) (As := [.int 4]) (rest := []) C G hl.1 (ctX3_next _  hc) ⟨wd_723, wd_724, wd_725, wd_77, wd_726⟩ (by decide +kernel) rfl ⟨rfl, rfl⟩ ⟨Nat.le_of_ble_eq_true rfl, Nat.le_of_ble_eq_true rfl⟩ (kd_lt kd_113 (by decide)) (ent_3 b cI cZ cO _ kd_113) rfl (Nat.le_of_ble_eq_true rfl) ⟨Nat.le_of_ble_eq_true rfl, Nat.le_of_ble_eq_true rfl⟩ dX2_actByDraws_13 rfl (fun H locs G => ?_)
    refine lv_istore_n (lv' := [(2, .int r_3), (0, .ref (b + 3)), (1, .ref (b + 113))]) hx hb dX2_actByDraws_16 rfl hl (by decide) rfl (fun ls hl => ?_)
    refine lv_aload_n hx hb dX2_actByDraws_17 rfl (lv_at hl 2 rfl) ?_
    refine lv_aload_n hx hb dX2_actByDraws_18 rfl (lv_at hl 1 rfl) ?_
    obtain ⟨n_4, en_4, hk_4, hs⟩ := gkE hs
    refine gf_X2_12 C G kd_3 en_4 dX2_actByDraws_19 ?_
    refine gf_X2_32 C G hk_4 dX2_actByDraws_22 ?_
    obtain ⟨r_5, σ_5, hc, hs⟩ := biE hs
    refine callVI (ar := 1) (As := [.int (σ_3 n_4 4)]) (rest := []) C G hl.1 (ctX3_next _  hc) ⟨wd_723, wd_724, wd_725, wd_77, wd_726⟩ (by decide +kernel) rfl ⟨rfl, rfl⟩ ⟨Nat.le_of_ble_eq_true rfl, Nat.le_of_ble_eq_true rfl⟩ (kd_lt kd_113 (by decide)) (ent_3 b cI cZ cO _ kd_113) rfl (Nat.le_of_ble_eq_true rfl) ⟨Nat.le_of_ble_eq_true rfl, Nat.le_of_ble_eq_true rfl⟩ dX2_actByDraws_25 rfl (fun H locs G => ?_)
    refine lv_istore_n (lv' := [(3, .int r_5), (2, .int r_3), (0, .ref (b + 3)), (1, .ref (b + 113))]) hx hb dX2_actByDraws_28 rfl hl (by decide) rfl (fun ls hl => ?_)
    refine lv_aload_n hx hb dX2_actByDraws_29 rfl (lv_at hl 3 rfl) ?_
    refine lv_bipush (v := 100) hx hb dX2_actByDraws_30 (by decide) ?_
    obtain ⟨r_6, σ_6, hc, hs⟩ := biE hs
    refine callVI (ar := 1) (As := [.int 100]) (rest := []) C G hl.1 (ctX3_next _  hc) ⟨wd_723, wd_724, wd_725, wd_77, wd_726⟩ (by decide +kernel) rfl ⟨rfl, rfl⟩ ⟨Nat.le_of_ble_eq_true rfl, Nat.le_of_ble_eq_true rfl⟩ (kd_lt kd_113 (by decide)) (ent_3 b cI cZ cO _ kd_113) rfl (Nat.le_of_ble_eq_true rfl) ⟨Nat.le_of_ble_eq_true rfl, Nat.le_of_ble_eq_true rfl⟩ dX2_actByDraws_32 rfl (fun H locs G => ?_)
    refine lv_istore (lv' := [(4, .int r_6), (3, .int r_5), (2, .int r_3), (0, .ref (b + 3)), (1, .ref (b + 113))]) hx hb dX2_actByDraws_35 hl (by decide) rfl (fun ls hl => ?_)
    refine lv_aload_n hx hb dX2_actByDraws_37 rfl (lv_at hl 3 rfl) ?_
    refine lv_iload_n hx hb dX2_actByDraws_38 rfl (lv_at hl 1 rfl) ?_
    obtain ⟨r_7, σ_7, hc, hs⟩ := biE hs
    refine callVI (ar := 1) (As := [.int r_5]) (rest := []) C G hl.1 (ctX2_isPerson _  hc) ⟨wd_731, wd_590, wd_591, wd_71, wd_592⟩ (by decide +kernel) rfl ⟨rfl, rfl⟩ ⟨Nat.le_of_ble_eq_true rfl, Nat.le_of_ble_eq_true rfl⟩ (kd_lt kd_3 (by decide)) (ent_2 b cI cZ cO _ kd_3) rfl (Nat.le_of_ble_eq_true rfl) ⟨Nat.le_of_ble_eq_true rfl, Nat.le_of_ble_eq_true rfl⟩ dX2_actByDraws_39 rfl (fun H locs G => ?_)
    refine lv_if_ne (tgt := 46) hx hb dX2_actByDraws_42 (by decide) (fun c_8 => ?_) (fun c_8 => ?_)
    · replace hs := ifF c_8 hs
      refine lv_iload_n hx hb dX2_actByDraws_46 rfl (lv_at hl 2 rfl) ?_
      refine lv_iconst (v := 1) hx hb dX2_actByDraws_47 (by decide) ?_
      refine lv_icmp_gt (tgt := 61) hx hb dX2_actByDraws_48 (by decide) (fun c_9 => ?_) (fun c_9 => ?_)
      · replace hs := ifT c_9 hs
        refine lv_iload_n hx hb dX2_actByDraws_61 rfl (lv_at hl 2 rfl) ?_
        refine lv_iconst (v := 3) hx hb dX2_actByDraws_62 (by decide) ?_
        refine lv_icmp_ne (tgt := 85) hx hb dX2_actByDraws_63 (by decide) (fun c_10 => ?_) (fun c_10 => ?_)
        · replace hs := ifF c_10 hs
          refine lv_aload_n hx hb dX2_actByDraws_85 rfl (lv_at hl 3 rfl) ?_
          refine lv_iload_n hx hb dX2_actByDraws_86 rfl (lv_at hl 1 rfl) ?_
          refine lv_iload_n hx hb dX2_actByDraws_87 rfl (lv_at hl 1 rfl) ?_
          obtain ⟨r_11, σ_11, hc, hs⟩ := biE hs
          refine callVI (ar := 2) (As := [.int r_5, .int r_5]) (rest := []) C G hl.1 (ctX2_canAnswer _  hc) ⟨wd_733, wd_667, wd_668, wd_71, wd_669⟩ (by decide +kernel) rfl ⟨rfl, rfl⟩ ⟨Nat.le_of_ble_eq_true rfl, Nat.le_of_ble_eq_true rfl⟩ (kd_lt kd_3 (by decide)) (ent_2 b cI cZ cO _ kd_3) rfl (Nat.le_of_ble_eq_true rfl) ⟨Nat.le_of_ble_eq_true rfl, Nat.le_of_ble_eq_true rfl⟩ dX2_actByDraws_88 rfl (fun H locs G => ?_)
          refine lv_if_eq (tgt := 100) hx hb dX2_actByDraws_91 (by decide) (fun c_12 => ?_) (fun c_12 => ?_)
          · replace hs := ifT c_12 hs
            exact retV C G hs dX2_actByDraws_100
          · replace hs := ifF c_12 hs
            refine lv_aload_n hx hb dX2_actByDraws_94 rfl (lv_at hl 3 rfl) ?_
            refine lv_iload_n hx hb dX2_actByDraws_95 rfl (lv_at hl 1 rfl) ?_
            refine lv_iload_n hx hb dX2_actByDraws_96 rfl (lv_at hl 1 rfl) ?_
            obtain ⟨σ_13, hc, hs⟩ := bvE hs
            refine callVV (ar := 2) (As := [.int r_5, .int r_5]) (rest := []) C G hl.1 (ctX2_answerBack _  hc) ⟨wd_734, wd_676, wd_677, wd_71, wd_678⟩ (by decide +kernel) rfl ⟨rfl, rfl⟩ ⟨Nat.le_of_ble_eq_true rfl, Nat.le_of_ble_eq_true rfl⟩ (kd_lt kd_3 (by decide)) (ent_2 b cI cZ cO _ kd_3) rfl (Nat.le_of_ble_eq_true rfl) ⟨Nat.le_of_ble_eq_true rfl, Nat.le_of_ble_eq_true rfl⟩ dX2_actByDraws_97 rfl (fun H locs G => ?_)
            exact retV C G hs dX2_actByDraws_100
        · replace hs := ifT c_10 hs
          refine lv_aload_n hx hb dX2_actByDraws_66 rfl (lv_at hl 3 rfl) ?_
          refine gf_X2_21 C G kd_3 (n' := 11) rfl dX2_actByDraws_67 ?_
          refine gf_X2_60 C G kd_11 (n' := 14) rfl dX2_actByDraws_70 ?_
          refine lv_iload_n hx hb dX2_actByDraws_73 rfl (lv_at hl 1 rfl) ?_
          refine lv_iload hx hb dX2_actByDraws_74 (lv_at hl 0 rfl) ?_
          refine lv_bipush (v := 9) hx hb dX2_actByDraws_76 (by decide) ?_
          refine lv_irem hx hb dX2_actByDraws_78 (by decide) ?_
          refine lv_iconst (v := 1) hx hb dX2_actByDraws_79 (by decide) ?_
          refine lv_iadd hx hb dX2_actByDraws_80 ?_
          obtain ⟨g_14, hs⟩ := gdE hs
          refine m_iast C G kd_14 ln_14 g_14 hs dX2_actByDraws_81 (fun σ_14 H locs hs G => ?_)
          refine lv_goto (tgt := 100) hx hb dX2_actByDraws_82 (by decide) ?_
          exact retV C G hs dX2_actByDraws_100
      · replace hs := ifF c_9 hs
        refine lv_aload_n hx hb dX2_actByDraws_51 rfl (lv_at hl 3 rfl) ?_
        refine lv_iload_n hx hb dX2_actByDraws_52 rfl (lv_at hl 1 rfl) ?_
        refine lv_iload hx hb dX2_actByDraws_53 (lv_at hl 0 rfl) ?_
        obtain ⟨σ_15, hc, hs⟩ := bvE hs
        refine callVV (ar := 2) (As := [.int r_5, .int r_6]) (rest := []) C G hl.1 (ctX2_foretell _  hc) ⟨wd_732, wd_659, wd_660, wd_71, wd_661⟩ (by decide +kernel) rfl ⟨rfl, rfl⟩ ⟨Nat.le_of_ble_eq_true rfl, Nat.le_of_ble_eq_true rfl⟩ (kd_lt kd_3 (by decide)) (ent_2 b cI cZ cO _ kd_3) rfl (Nat.le_of_ble_eq_true rfl) ⟨Nat.le_of_ble_eq_true rfl, Nat.le_of_ble_eq_true rfl⟩ dX2_actByDraws_55 rfl (fun H locs G => ?_)
        refine lv_goto (tgt := 100) hx hb dX2_actByDraws_58 (by decide) ?_
        exact retV C G hs dX2_actByDraws_100
    · replace hs := ifT c_8 hs
      exact retV C G hs dX2_actByDraws_45
  · replace hs := ifT c_2 hs
    exact retV C G hs dX2_actByDraws_10
