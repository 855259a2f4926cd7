/-! THE CLAIM OUT OF ONE WALK OF THE LAW'S BODY. Your part is whole_start (and what it stands on); all else here is the same for every law, but numbers. -/
def R_law : String := "AnsweredFatesLaw"
def lw_P (b : Addr) (xs : List Int32) (args : Array Value) (s : State) : Prop := args = #[.ref b] ∧ s.IntsAt b xs ∧ xs.length ≤ 2048 ∧ (Jvm.Cond.and given_1 narrow_1).before args s = true
def lw_Q (_ : Array Value) (s : State) (o : Outcome) (t : State) : Prop := o = .returned (some (.int 1)) ∧ Framed s o t [] 600000 7302250
def lw_Z (below : List Frame) (a : Array Value) (s : State) : State → Prop := fun t => ∃ o, t.status = .running ∧ Ended t below o ∧ lw_Q a s o t
/-- the law's own end, with 1 on the stack, nothing written that was there before, its room as the claim has it -/
theorem lw_ret {p : Program} {l : Launch} {e : Env} {s : State} {m : MethodId} {below : List Frame} {meth : Method} {c : Code} {b : Nat} (hx : p.tables.exec = Jvm.exec) (hb : c.code = code) (hr : meth.sig.returnType = ret) (hlocks : meth.locks = false) {pc : Nat} {H : Heap} {ls : Array Slot} (hdg : decode code pc = .ok (.ireturn, 1)) : W p l e room_1 s m #[Value.ref b] below meth c H [] 600000 7302250 (lw_Z below #[Value.ref b] s) (F0 m pc ls [.int 1]) := by
  intro T hT X
  obtain ⟨fs, hret, hrun, hended, hW, hframe⟩ := X.leave (v := some (.int 1)) (hlocks := hlocks) (fun h => by rw [hr] at h; cases h)
  have hmeth' : T.vm.method? m = some meth := X.method'
  refine ⟨T.setFrames fs, ?_, .returned (some (.int 1)), hrun, hended, rfl, ⟨_, rfl⟩, hW, hframe⟩
  jvm_step X.here [X.here.top, hx, hb, hdg, hmeth', hr, ret, narrow_b1]
  (try refine ⟨rfl, ?_⟩); (try refine ⟨rfl, ?_⟩)
  first | (intro acts; rw [hret _ acts rfl rfl rfl]) | rw [hret _ _ rfl rfl rfl]
  exact Steps.refl _
/-- what holds at the law's entry: the machine, the code, the tables' words (any of lw_tbl by 'hts w (by decide +kernel)'), the script of L ints xs at the cell b, what the Statement gives of the start (any of its parts by flat_of_before) -/
def lw_At (p : Program) (s : State) (m : MethodId) (meth : Method) (c : Code) (b L : Nat) (xs : Nat → Int32) : Prop :=
  p.tables.exec = Jvm.exec ∧ c.code = code ∧ meth.sig.returnType = ret ∧ c.maxLocals = 4 ∧ s.vm.findClass R_law = some m.cls ∧ (∀ w ∈ lw_tbl, w.before #[Value.ref b] s = true) ∧ va_X b L xs s s.heap ∧ b < s.heap.size ∧ meth.locks = false ∧ (Jvm.Cond.and given_1 narrow_1).before #[Value.ref b] s = true
set_option maxRecDepth 100000 in
set_option maxHeartbeats 4000000 in
/-- the law's loop: at its head, with i ints read, both sides hold the same -/
theorem law_loop {p : Program} {l : Launch} {e : Env} {s : State} {m : MethodId} {below : List Frame} {meth : Method} {c : Code} {D : va_G} {cI cZ cO : ClassId} {b0 L : Nat} {xs : Nat → Int32} (hL : L ≤ 2048) (C0 : lw_At p s m meth c b0 L xs) (C : Cx p s m #[.ref b0] meth c cL_law RL 4 (some .boolean) D cI cZ cO) : ∀ (n i : Nat) (σ : Sg) (H : Heap) (locs : List Loc) (ls : Array Slot), i ≤ L → L + 4 ≤ i + n → Inv σ → Gd s.heap.size D cI cZ cO σ s.heap H locs → lv_has ls 4 [(0, .ref b0), (1, .ref (s.heap.size + 0)), (2, .ref (s.heap.size + 132)), (3, .int (nI i))] → W p l e room_1 s m #[Value.ref b0] below meth c H locs 151 4204 (lw_Z below #[Value.ref b0] s) (F0 m 18 ls []) := by
  obtain ⟨hx0, hb0, hr, hml, hown, hts, hXs, hbl, hlocks, hgv⟩ := C0
  have hx := C.1
  have hb := C.2.1
  have hbA : ¬ (fun q : Nat => s.heap.size ≤ q) b0 := Nat.not_le.mpr hbl
  intro n
  induction n with
  | zero =>
    intro i σ H locs ls h1 h2
    exact absurd h2 (by omega)
  | succ n ih =>
    intro i σ H locs ls h1 h2 I G hl
    refine lv_iload_n hx hb dL_law_18 rfl (lv_at hl 3 rfl) ?_
    refine lv_aload_n hx hb dL_law_19 rfl (lv_at hl 0 rfl) ?_
    refine va_slen hx hb hXs hbl hbA G.2 dL_law_20 ?_
    refine lv_iconst (v := 4) hx hb dL_law_21 (by decide) ?_
    refine lv_isub hx hb dL_law_22 ?_
    refine lv_icmp_gt (tgt := 789) hx hb dL_law_23 (by decide) (fun c1 => ?_) (fun c1 => ?_)
    · refine lv_iconst (v := 1) hx hb dL_law_789 (by decide) ?_
      refine va_forget (fun q hq => G.2.2.2 q hq) ?_
      refine W.widen (k := 600000) (n := 7302250) (by omega) (by omega) ?_
      exact lw_ret hx hb hr hlocks dL_law_790
    · have hi4 : i + 4 ≤ L := by
        rw [show Int32.ofNat L = nI L from rfl, li4, Int32.lt_iff_toInt_lt, nI_toInt (by omega), pk_sub_toInt (by omega) (by omega)] at c1
        omega
      have next : ∀ (σ : Sg) (H : Heap) (locs : List Loc), Inv σ → Gd s.heap.size D cI cZ cO σ s.heap H locs → W p l e room_1 s m #[Value.ref b0] below meth c H locs 151 4204 (lw_Z below #[Value.ref b0] s) (F0 m 783 ls []) := by
        intro σ H locs I G
        obtain ⟨z, ez⟩ : ∃ z : Int32, z = nI i + 4 := ⟨_, rfl⟩
        refine lv_iinc (v := z) (lv' := [(3, .int z), (0, .ref b0), (1, .ref (s.heap.size + 0)), (2, .ref (s.heap.size + 132))]) hx hb dL_law_783 hl (k := 3) rfl (by rw [ez]; rfl) (by decide) rfl (fun ls hl => ?_)
        refine lv_goto (tgt := 18) hx hb dL_law_786 (by decide) ?_
        have ez : z = nI (i + 4) := by rw [ez, li4, nI_add]
        subst ez
        exact ih (i + 4) σ H locs ls (by omega) (by omega) I G (lv_sub hl [1, 2, 3, 0] rfl)
      refine lv_aload_n hx hb dL_law_26 rfl (lv_at hl 0 rfl) ?_
      refine lv_iload_n hx hb dL_law_27 rfl (lv_at hl 3 rfl) ?_
      refine va_sld hx hb hXs hbl hbA G.2 (vp_in_nI (show i < L by omega) (by omega)) dL_law_28 ?_
      refine lv_bipush (v := 31) hx hb dL_law_29 (by decide) ?_
      refine lv_iand hx hb dL_law_31 ?_
      generalize (xs (nI i).toNatClampNeg &&& 31) = y
      by_cases c_0 : y = 0
      · refine lv_tableIn (tgt := 148) hx hb dL_law_32 (by rw [c_0]; decide) (by rw [c_0]; decide) (by rw [c_0]; rfl) (by decide) ?_
        exact lc_feed C hXs hbl hi4 hL I G hl next
      by_cases c_1 : y = 1
      · refine lv_tableIn (tgt := 171) hx hb dL_law_32 (by rw [c_1]; decide) (by rw [c_1]; decide) (by rw [c_1]; rfl) (by decide) ?_
        exact lc_hills C hXs hbl hi4 hL I G hl next
      by_cases c_2 : y = 2
      · refine lv_tableIn (tgt := 184) hx hb dL_law_32 (by rw [c_2]; decide) (by rw [c_2]; decide) (by rw [c_2]; rfl) (by decide) ?_
        exact lc_fault C hXs hbl hi4 hL I G hl next
      by_cases c_3 : y = 3
      · refine lv_tableIn (tgt := 197) hx hb dL_law_32 (by rw [c_3]; decide) (by rw [c_3]; decide) (by rw [c_3]; rfl) (by decide) ?_
        exact lc_told C hXs hbl hi4 hL I G hl next
      by_cases c_4 : y = 4
      · refine lv_tableIn (tgt := 220) hx hb dL_law_32 (by rw [c_4]; decide) (by rw [c_4]; decide) (by rw [c_4]; rfl) (by decide) ?_
        exact lc_person C hXs hbl hi4 hL I G hl next
      by_cases c_5 : y = 5
      · refine lv_tableIn (tgt := 253) hx hb dL_law_32 (by rw [c_5]; decide) (by rw [c_5]; decide) (by rw [c_5]; rfl) (by decide) ?_
        exact lc_village C hXs hbl hi4 hL I G hl next
      by_cases c_6 : y = 6
      · refine lv_tableIn (tgt := 286) hx hb dL_law_32 (by rw [c_6]; decide) (by rw [c_6]; decide) (by rw [c_6]; rfl) (by decide) ?_
        exact lc_tell C hXs hbl hi4 hL I G hl next
      by_cases c_7 : y = 7
      · refine lv_tableIn (tgt := 319) hx hb dL_law_32 (by rw [c_7]; decide) (by rw [c_7]; decide) (by rw [c_7]; rfl) (by decide) ?_
        exact lc_answer C hXs hbl hi4 hL I G hl next
      by_cases c_8 : y = 8
      · refine lv_tableIn (tgt := 352) hx hb dL_law_32 (by rw [c_8]; decide) (by rw [c_8]; decide) (by rw [c_8]; rfl) (by decide) ?_
        exact lc_year C hXs hbl hi4 hL I G hl next
      by_cases c_9 : y = 9
      · refine lv_tableIn (tgt := 375) hx hb dL_law_32 (by rw [c_9]; decide) (by rw [c_9]; decide) (by rw [c_9]; rfl) (by decide) ?_
        exact lc_wit C hXs hbl hi4 hL I G hl next
      by_cases c_10 : y = 10
      · refine lv_tableIn (tgt := 408) hx hb dL_law_32 (by rw [c_10]; decide) (by rw [c_10]; decide) (by rw [c_10]; rfl) (by decide) ?_
        exact lc_bear C hXs hbl hi4 hL I G hl next
      by_cases c_11 : y = 11
      · refine lv_tableIn (tgt := 441) hx hb dL_law_32 (by rw [c_11]; decide) (by rw [c_11]; decide) (by rw [c_11]; rfl) (by decide) ?_
        exact lc_drift C hXs hbl hi4 hL I G hl next
      by_cases c_12 : y = 12
      · refine lv_tableIn (tgt := 464) hx hb dL_law_32 (by rw [c_12]; decide) (by rw [c_12]; decide) (by rw [c_12]; rfl) (by decide) ?_
        exact lc_undo C hXs hbl hi4 hL I G hl next
      by_cases c_13 : y = 13
      · refine lv_tableIn (tgt := 477) hx hb dL_law_32 (by rw [c_13]; decide) (by rw [c_13]; decide) (by rw [c_13]; rfl) (by decide) ?_
        exact lc_down C hXs hbl hi4 hL I G hl next
      by_cases c_14 : y = 14
      · refine lv_tableIn (tgt := 520) hx hb dL_law_32 (by rw [c_14]; decide) (by rw [c_14]; decide) (by rw [c_14]; rfl) (by decide) ?_
        exact lc_best C hXs hbl hi4 hL I G hl next
      by_cases c_15 : y = 15
      · refine lv_tableIn (tgt := 543) hx hb dL_law_32 (by rw [c_15]; decide) (by rw [c_15]; decide) (by rw [c_15]; rfl) (by decide) ?_
        exact lc_match C hXs hbl hi4 hL I G hl next
      by_cases c_16 : y = 16
      · refine lv_tableIn (tgt := 566) hx hb dL_law_32 (by rw [c_16]; decide) (by rw [c_16]; decide) (by rw [c_16]; rfl) (by decide) ?_
        exact lc_shares C hXs hbl hi4 hL I G hl next
      by_cases c_17 : y = 17
      · refine lv_tableIn (tgt := 599) hx hb dL_law_32 (by rw [c_17]; decide) (by rw [c_17]; decide) (by rw [c_17]; rfl) (by decide) ?_
        exact lc_dry C hXs hbl hi4 hL I G hl next
      by_cases c_18 : y = 18
      · refine lv_tableIn (tgt := 632) hx hb dL_law_32 (by rw [c_18]; decide) (by rw [c_18]; decide) (by rw [c_18]; rfl) (by decide) ?_
        exact lc_returned C hXs hbl hi4 hL I G hl next
      by_cases c_19 : y = 19
      · refine lv_tableIn (tgt := 655) hx hb dL_law_32 (by rw [c_19]; decide) (by rw [c_19]; decide) (by rw [c_19]; rfl) (by decide) ?_
        exact lc_write C hXs hbl hi4 hL I G hl next
      by_cases c_20 : y = 20
      · refine lv_tableIn (tgt := 688) hx hb dL_law_32 (by rw [c_20]; decide) (by rw [c_20]; decide) (by rw [c_20]; rfl) (by decide) ?_
        exact lc_tear C hXs hbl hi4 hL I G hl next
      by_cases c_21 : y = 21
      · refine lv_tableIn (tgt := 701) hx hb dL_law_32 (by rw [c_21]; decide) (by rw [c_21]; decide) (by rw [c_21]; rfl) (by decide) ?_
        exact lc_judge C hXs hbl hi4 hL I G hl next
      by_cases c_22 : y = 22
      · refine lv_tableIn (tgt := 714) hx hb dL_law_32 (by rw [c_22]; decide) (by rw [c_22]; decide) (by rw [c_22]; rfl) (by decide) ?_
        exact lc_seed C hXs hbl hi4 hL I G hl next
      by_cases c_23 : y = 23
      · refine lv_tableIn (tgt := 737) hx hb dL_law_32 (by rw [c_23]; decide) (by rw [c_23]; decide) (by rw [c_23]; rfl) (by decide) ?_
        exact lc_keep C hXs hbl hi4 hL I G hl next
      by_cases c_24 : y = 24
      · refine lv_tableIn (tgt := 760) hx hb dL_law_32 (by rw [c_24]; decide) (by rw [c_24]; decide) (by rw [c_24]; rfl) (by decide) ?_
        exact lc_goBack C hXs hbl hi4 hL I G hl next
      refine lv_tableOut (tgt := 783) hx hb dL_law_32 (by have t0 := tbl_ne c_0 (z := 0) (by decide); have t1 := tbl_ne c_1 (z := 1) (by decide); have t2 := tbl_ne c_2 (z := 2) (by decide); have t3 := tbl_ne c_3 (z := 3) (by decide); have t4 := tbl_ne c_4 (z := 4) (by decide); have t5 := tbl_ne c_5 (z := 5) (by decide); have t6 := tbl_ne c_6 (z := 6) (by decide); have t7 := tbl_ne c_7 (z := 7) (by decide); have t8 := tbl_ne c_8 (z := 8) (by decide); have t9 := tbl_ne c_9 (z := 9) (by decide); have t10 := tbl_ne c_10 (z := 10) (by decide); have t11 := tbl_ne c_11 (z := 11) (by decide); have t12 := tbl_ne c_12 (z := 12) (by decide); have t13 := tbl_ne c_13 (z := 13) (by decide); have t14 := tbl_ne c_14 (z := 14) (by decide); have t15 := tbl_ne c_15 (z := 15) (by decide); have t16 := tbl_ne c_16 (z := 16) (by decide); have t17 := tbl_ne c_17 (z := 17) (by decide); have t18 := tbl_ne c_18 (z := 18) (by decide); have t19 := tbl_ne c_19 (z := 19) (by decide); have t20 := tbl_ne c_20 (z := 20) (by decide); have t21 := tbl_ne c_21 (z := 21) (by decide); have t22 := tbl_ne c_22 (z := 22) (by decide); have t23 := tbl_ne c_23 (z := 23) (by decide); have t24 := tbl_ne c_24 (z := 24) (by decide); omega) (by decide) ?_
      exact next σ H locs I G
theorem nst_in : ∀ q ∈ nstQ, Cond.methodLinkNest q.1 q.2.1 q.2.2.1 q.2.2.2 ∈ lw_tbl := by
  intro q hq
  unfold nstQ at hq
  simp only [List.mem_cons, List.not_mem_nil, or_false] at hq
  rcases hq with rfl | rfl | rfl | rfl | rfl | rfl | rfl | rfl | rfl | rfl | rfl | rfl
  · exact List.mem_of_getElem? (i := 96) (by decide +kernel)
  · exact List.mem_of_getElem? (i := 125) (by decide +kernel)
  · exact List.mem_of_getElem? (i := 131) (by decide +kernel)
  · exact List.mem_of_getElem? (i := 197) (by decide +kernel)
  · exact List.mem_of_getElem? (i := 249) (by decide +kernel)
  · exact List.mem_of_getElem? (i := 286) (by decide +kernel)
  · exact List.mem_of_getElem? (i := 305) (by decide +kernel)
  · exact List.mem_of_getElem? (i := 322) (by decide +kernel)
  · exact List.mem_of_getElem? (i := 333) (by decide +kernel)
  · exact List.mem_of_getElem? (i := 350) (by decide +kernel)
  · exact List.mem_of_getElem? (i := 367) (by decide +kernel)
  · exact List.mem_of_getElem? (i := 389) (by decide +kernel)
theorem over_in : Cond.arrayOver (.object "AnsweredFates$State") ∈ lw_tbl := List.mem_of_getElem? (i := 285) (by decide +kernel)
/-- the classes and rows are known -/
theorem known {s : State} {args : Array Value} (hts : ∀ w ∈ lw_tbl, w.before args s = true) : ∃ (D : va_G) (cI cZ cO : ClassId), va_K D vwCl (tys3 cI cZ cO) s := by
  have hT : ∀ w ∈ TT, w.before args s = true := fun w h => hts w (List.mem_filter.mp h).1
  obtain ⟨c0, i0, k0⟩ := u_known (C := RX0) (T := TX0) (N := 2) (n := 2) hT inl_X0 (hT _ wd_248)
  obtain ⟨c1, i1, k1⟩ := u_known (C := RX1) (T := TX1) (N := 3) (n := 3) hT inl_X1 (hT _ wd_349)
  obtain ⟨c2, i2, k2⟩ := u_known (C := RX2) (T := TX2) (N := 3) (n := 3) hT inl_X2 (hT _ wd_124)
  obtain ⟨c3, i3, k3⟩ := u_known (C := RX3) (T := TX3) (N := 1) (n := 1) hT inl_X3 (hT _ wd_321)
  obtain ⟨c4, i4, k4⟩ := u_known (C := RX4) (T := TX4) (N := 11) (n := 11) hT inl_X4 (hT _ wd_130)
  obtain ⟨c5, i5, k5⟩ := u_known (C := RX5) (T := TX5) (N := 3) (n := 3) hT inl_X5 (hT _ wd_299)
  obtain ⟨c6, i6, k6⟩ := u_known (C := RX6) (T := TX6) (N := 5) (n := 5) hT inl_X6 (hT _ wd_366)
  obtain ⟨c7, i7, k7⟩ := u_known (C := RX7) (T := TX7) (N := 3) (n := 3) hT inl_X7 (hT _ wd_279)
  obtain ⟨c8, i8, k8⟩ := u_known (C := RX8) (T := TX8) (N := 6) (n := 6) hT inl_X8 (hT _ wd_95)
  obtain ⟨c9, i9, k9⟩ := u_known (C := RX9) (T := TX9) (N := 3) (n := 3) hT inl_X9 (hT _ wd_332)
  obtain ⟨c10, i10, k10⟩ := u_known (C := RX10) (T := TX10) (N := 9) (n := 9) hT inl_X10 (hT _ wd_196)
  obtain ⟨c11, i11, k11⟩ := u_known (C := RX11) (T := TX11) (N := 9) (n := 9) hT inl_X11 (hT _ wd_87)
  obtain ⟨c12, i12, k12⟩ := u_known (C := RX12) (T := TX12) (N := 36) (n := 36) hT inl_X12 (hT _ wd_869)
  obtain ⟨cI, kI, pI, aI1, aI2, aI3⟩ := Cond.arrayClass_spec (hT _ wd_122)
  obtain ⟨cZ, kZ, pZ, aZ1, aZ2, aZ3⟩ := Cond.arrayClass_spec (hT _ wd_319)
  obtain ⟨pO, cO, kO, aO0, -, aO2, aO3, aO4⟩ := Cond.arrayOver_spec (hts _ over_in)
  refine ⟨(fun k => [c0, c1, c2, c3, c4, c5, c6, c7, c8, c9, c10, c11, c12].getD k c0, fun k => [i0, i1, i2, i3, i4, i5, i6, i7, i8, i9, i10, i11, i12].getD k i0), cI, cZ, cO, fun k q hq => ?_, fun k q hq => ?_⟩
  · match k, hq with
    | 0, hq => cases hq; exact k0
    | 1, hq => cases hq; exact k1
    | 2, hq => cases hq; exact k2
    | 3, hq => cases hq; exact k3
    | 4, hq => cases hq; exact k4
    | 5, hq => cases hq; exact k5
    | 6, hq => cases hq; exact k6
    | 7, hq => cases hq; exact k7
    | 8, hq => cases hq; exact k8
    | 9, hq => cases hq; exact k9
    | 10, hq => cases hq; exact k10
    | 11, hq => cases hq; exact k11
    | 12, hq => cases hq; exact k12
    | k + 13, hq => simp [vwCl] at hq
  · match k, hq with
    | 0, hq => cases hq; exact ⟨fun n z => ⟨fun k h => (by cases h), kI, aI2, pI, aI3⟩, aI1⟩
    | 1, hq => cases hq; exact ⟨fun n z => ⟨fun k h => (by cases h), kZ, aZ2, pZ, aZ3⟩, aZ1⟩
    | 2, hq => cases hq; exact ⟨fun n z => ⟨fun k h => (by cases h), kO, aO2, pO, aO3⟩, kO, pO, aO2, aO3, aO0, aO4⟩
    | k + 3, hq => simp [tys3] at hq
set_option maxRecDepth 100000 in
set_option maxHeartbeats 4000000 in
/-- the law, from its entry -/
theorem whole_start {p : Program} {e : Env} {s : State} {m : MethodId} {below : List Frame} {meth : Method} {c : Code} (l : Launch) (hflags : l.flags = flags0) {b L : Nat} {xs : Nat → Int32} (hL : L ≤ 2048) (C0 : lw_At p s m meth c b L xs) : W p l e room_1 s m #[Value.ref b] below meth c s.heap [] 0 0 (lw_Z below #[Value.ref b] s) (entryFrame m ([Value.ref b] : List Value).toArray 4) := by
  obtain ⟨hx, hb, hr, hml, hown, hts, hXs, hbl, hlocks, hgv⟩ := id C0
  obtain ⟨D, cI, cZ, cO, hK⟩ := known hts
  have hT : ∀ w ∈ TT, w.before #[Value.ref b] s = true := fun w h => hts w (List.mem_filter.mp h).1
  have C : Cx p s m #[.ref b] meth c cL_law RL 4 (some .boolean) D cI cZ cO := ⟨hx, hb, hml, hown, hT, hK, hr, hlocks⟩
  have hX : Nx s := ⟨fun q hq => va_Nw.of rfl (hts _ (nst_in q hq)), va_AO.of (hts _ over_in)⟩
  have hl := lv_entry ([.ref b]) (n := 4) (Nat.le_of_ble_eq_true rfl)
  rw [lg_entry_eq]
  generalize (lg_sl ([.ref b]) ++ List.replicate (4 - (lg_sl ([.ref b])).length) Slot.unset).toArray = ls at hl ⊢
  have hl : lv_has ls 4 [(0, .ref b)] := hl
  have G : Bd s.heap.size 0 D (ent s.heap.size cI cZ cO s0) s.heap s.heap [] := ⟨rfl, fun k q h => by simp [wl] at h, va_S.rf⟩
  refine n_new (ci := 11) (dfl := [.null, .null, .null, .null, .null, .null, .null, .null, .null]) C G tyX11 tyX11_ok inl_X11 rfl wd_86 wd_87 wd_69 dfX11 (Nat.le_of_ble_eq_true rfl) (Nat.le_of_ble_eq_true rfl) dL_law_0 (fun H G => ?_)
  refine lv_dup hx hb dL_law_3 rfl ?_
  refine n_call (ar := 0) (k := 0) (E := ent s.heap.size cI cZ cO s0) (As := []) (rest := [.ref (s.heap.size + 0)]) C hX G (fun _ _ => rfl) hl.1 (kX11_init l s.heap.size D cI cZ cO) ⟨wd_88, wd_89, wd_69, wd_90⟩ ⟨rfl, by decide, by decide, by decide +kernel⟩ rfl ⟨rfl, rfl⟩ ⟨Nat.le_of_ble_eq_true rfl, Nat.le_of_ble_eq_true rfl⟩ (Nat.le_of_ble_eq_true rfl) ⟨Nat.le_of_ble_eq_true rfl, Nat.le_of_ble_eq_true rfl⟩ dL_law_4 rfl (fun H locs G => ?_)
  have G : Bd s.heap.size 132 D (ent s.heap.size cI cZ cO s0) s.heap H locs := G
  refine lv_astore_n (lv' := [(1, .ref (s.heap.size + 0)), (0, .ref b)]) hx hb dL_law_7 rfl hl (by decide) rfl (fun ls hl => ?_)
  refine n_new (ci := 12) (dfl := [.int 0, .int 0, .int 0, .int 0, .null, .null, .null, .null, .int 0, .null, .int 0, .int 0, .int 0, .int 0, .int 0, .int 0, .int 0, .int 0, .null, .null, .null, .null, .null, .int 0, .int 0, .int 0, .null, .null, .int 0, .null, .null, .int 0, .null, .null, .null, .null]) C G tyX12 tyX12_ok inl_X12 rfl wd_868 wd_869 wd_81 dfX12 (Nat.le_of_ble_eq_true rfl) (Nat.le_of_ble_eq_true rfl) dL_law_8 (fun H G => ?_)
  refine lv_dup hx hb dL_law_11 rfl ?_
  refine n_call (ar := 0) (k := 132) (E := ent s.heap.size cI cZ cO s0) (As := []) (rest := [.ref (s.heap.size + 132)]) C hX G (fun _ _ => rfl) hl.1 (kX12_init l s.heap.size D cI cZ cO) ⟨wd_870, wd_871, wd_81, wd_872⟩ ⟨rfl, by decide, by decide, by decide +kernel⟩ rfl ⟨rfl, rfl⟩ ⟨Nat.le_of_ble_eq_true rfl, Nat.le_of_ble_eq_true rfl⟩ (Nat.le_of_ble_eq_true rfl) ⟨Nat.le_of_ble_eq_true rfl, Nat.le_of_ble_eq_true rfl⟩ dL_law_12 rfl (fun H locs G => ?_)
  have G2 : Gd s.heap.size D cI cZ cO s0 s.heap H locs := ⟨G.2.1, G.2.2⟩
  refine lv_astore_n (lv' := [(2, .ref (s.heap.size + 132)), (1, .ref (s.heap.size + 0)), (0, .ref b)]) hx hb dL_law_15 rfl hl (by decide) rfl (fun ls hl => ?_)
  refine lv_iconst (v := 0) hx hb dL_law_16 (by decide) ?_
  refine lv_istore_n (lv' := [(3, .int 0), (2, .ref (s.heap.size + 132)), (1, .ref (s.heap.size + 0)), (0, .ref b)]) hx hb dL_law_17 rfl hl (by decide) rfl (fun ls hl => ?_)
  exact law_loop hL C0 C (L + 4) 0 s0 H locs ls (Nat.zero_le L) (by omega) inv0 G2 (lv_sub hl [3, 2, 1, 0] rfl)
