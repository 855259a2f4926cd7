/-! the reference's calls: years by draws, returns, the book, images -/
def drA (a : Ab) : Ab := yrA (if a 0 4 = 0 then a else chA a)
def sp_drift (a : Ab) (x : Int32) : Int32 × Ab := if isR 61 x ∧ ¬ x = 0 then (if a 0 1 = 0 then (-1000000003, a) else if a 4 1 ≤ 9000 then (nI (fo (fun _ b => drA b) (dn x) 0 (remA a) 4 2), fo (fun _ b => drA b) (dn x) 0 (remA a)) else (-1000000004, a)) else (-1000000002, a)
theorem chB_1 (a : Ab) (g : Gb a) {k p n s : Nat} (hp : p < a 0 4) : chB a k p n s 4 1 = a 4 1 := by
  have hP := gb_P g
  unfold chB
  by_cases q : 2 ≤ k
  · rw [if_pos q]
    by_cases z : k = 3
    · rw [if_pos z]
      exact va_up_ne (a 4) _ (by omega)
    · rw [if_neg z]
      by_cases u : 0 < a 4 (12 + p) ∧ bt (a 4 3) p = 0
      · rw [if_pos u]
        show ansW (a 4) p p _ 1 = a 4 1
        unfold ansW
        rw [va_up_ne _ _ (by omega), va_up_ne _ _ (by omega), va_up_ne _ _ (by omega), va_up_ne _ _ (by omega)]
      · rw [if_neg u]
        rfl
  · rw [if_neg q]
    show telW (a 4) p n 1 = a 4 1
    unfold telW
    rw [va_up_ne _ _ (by omega), va_up_ne _ _ (by omega)]
theorem gb_chB {a : Ab} (g : Gb a) {k p n s : Nat} (hp : p < a 0 4) (hn : n < 100) (hs : s < 2147483648) : Gb (chB a k p n s) := by
  have hP := gb_P g
  have hV := gb_V g
  have hw := gb_w g
  have hy := gb_yr g
  have c1 := chB_1 a g (k := k) (n := n) (s := s) hp
  have g3 := gb_sd g hs
  unfold chB at c1 ⊢
  have key : ∀ w, w 1 = a 4 1 → Wc (a 0 1) (a 0 3) (a 0 4) w → Gb (va_up (sdA a s) 4 w) := fun w h1 hw => gb_row4 g3 ⟨by omega, hw⟩
  by_cases q : 2 ≤ k
  · rw [if_pos q] at c1 ⊢
    by_cases z : k = 3
    · rw [if_pos z] at c1 ⊢
      exact key _ c1 (hw.wit hP hV hp (by omega))
    · rw [if_neg z] at c1 ⊢
      by_cases u : 0 < a 4 (12 + p) ∧ bt (a 4 3) p = 0
      · rw [if_pos u] at c1 ⊢
        exact key _ c1 (hw.ans hP hV hp hp (brg_le g (wc_fate hw hp)).1)
      · rw [if_neg u]
        exact g3
  · rw [if_neg q] at c1 ⊢
    exact key _ c1 (hw.tel hP hV hp (by omega))
theorem chA_1 (a : Ab) (g : Gb a) (hP0 : 0 < a 0 4) : chA a 4 1 = a 4 1 := by
  unfold chA
  exact chB_1 a g (Nat.mod_lt _ hP0)
theorem gb_ch {a : Ab} (g : Gb a) (hP0 : 0 < a 0 4) : Gb (chA a) := by
  unfold chA
  exact gb_chB g (Nat.mod_lt _ hP0) (Nat.mod_lt _ (by omega)) (sd_lt _)
theorem gb_drA {a : Ab} (g : Gb a) (hy : a 4 1 < 9060) : Gb (drA a) := by
  unfold drA
  by_cases q : a 0 4 = 0
  · rw [if_pos q]; exact gb_yrA g hy
  · rw [if_neg q]
    exact gb_yrA (gb_ch g (by omega)) (by rw [chA_1 a g (by omega)]; exact hy)
theorem drA_1 {a : Ab} (g : Gb a) : drA a 4 1 = a 4 1 + 1 := by
  unfold drA
  by_cases q : a 0 4 = 0
  · rw [if_pos q]; exact yrA_1 a
  · rw [if_neg q, yrA_1, chA_1 a g (by omega)]
theorem mDrifts : ∀ (d i fu N : Nat) (a : Ab) (σ : Sg), i + d = N → d < fu → N ≤ 60 → RelM a σ → Gb a → a 4 1 + d ≤ 9060 → ∃ τ, fX12_drift_46 fu (fun σ_13 => (if inb 2 60 then some ((σ_13 136 (2 : Int32).toNatClampNeg), σ_13) else none)) σ (nI N) (nI i) = some (nI (fo (fun _ b => drA b) d i a 4 2), τ) ∧ RelM (fo (fun _ b => drA b) d i a) τ ∧ Fr σ τ := by
  intro d
  induction d with
  | zero =>
    intro i fu N a σ h1 h2 h3 h g hy
    cases fu with
    | zero => omega
    | succ fu =>
      refine ⟨σ, ?_, h, Fr.rf σ⟩
      rw [fX12_drift_46_s]
      unfold fX12_drift_46b fo
      simp (disch := omega) only [lt_eq, bi_some, bv_some, ↓lim1, pk_m1f, fI_add1, li0, li1, li2, li3, li4, li5, li6, li7, li8, li9, li10, li12, li15, li16, li19, li20, li26, li30, li31, li32, li48, li57, li59, li60, li64, li99, li100, li128, li240, li255, li480, li999, li1000, li9000, li9999, liF, nI_add, sb_nI, pk_mul, dv_nI, cl_nI, inbT, le_nI, lt_nI, eq_nI, fI_le, fI_eq, st_ne, st_at, iT, iF, Nat.zero_add, Nat.add_zero, not_true_eq_false, not_false_eq_true, true_and, and_true, false_and, and_false, or_true, true_or, or_false, false_or, Nat.reduceEqDiff, Nat.reduceLeDiff, Nat.reduceLT, Nat.reduceAdd, Nat.reduceSub, Nat.reduceMul, Nat.reduceDiv, Nat.reduceMod, ↓reduceIte, show N ≤ i by omega, rm_w h]
  | succ d ih =>
    intro i fu N a σ h1 h2 h3 h g hy
    cases fu with
    | zero => omega
    | succ fu =>
      have hP := gb_P g
      have hst : ∃ τ, (∀ kx, fX12_drift_46b (fX12_drift_46 fu kx) kx σ (nI N) (nI i) = fX12_drift_46 fu kx τ (nI N) (nI (i + 1))) ∧ RelM (drA a) τ ∧ Fr σ τ := by
        unfold drA
        by_cases q : a 0 4 = 0
        · rw [if_pos q]
          obtain ⟨τ, e, h4, f⟩ := mYearA h g
          refine ⟨τ, fun kx => ?_, h4, f⟩
          unfold fX12_drift_46b fX12_drift_62
          rw [e]
          simp (disch := omega) only [lt_eq, bi_some, bv_some, ↓lim1, pk_m1f, fI_add1, li0, li1, li2, li3, li4, li5, li6, li7, li8, li9, li10, li12, li15, li16, li19, li20, li26, li30, li31, li32, li48, li57, li59, li60, li64, li99, li100, li128, li240, li255, li480, li999, li1000, li9000, li9999, liF, nI_add, sb_nI, pk_mul, dv_nI, cl_nI, inbT, le_nI, lt_nI, eq_nI, fI_le, fI_eq, st_ne, st_at, iT, iF, Nat.zero_add, Nat.add_zero, not_true_eq_false, not_false_eq_true, true_and, and_true, false_and, and_false, or_true, true_or, or_false, false_or, Nat.reduceEqDiff, Nat.reduceLeDiff, Nat.reduceLT, Nat.reduceAdd, Nat.reduceSub, Nat.reduceMul, Nat.reduceDiv, Nat.reduceMod, ↓reduceIte, show ¬ N ≤ i by omega, rm_P h, show a 0 4 ≤ 0 by omega]
        · rw [if_neg q]
          obtain ⟨τ0, e0, h0, f0⟩ := mChance h g (by omega)
          obtain ⟨τ, e, h4, f⟩ := mYearA h0 (gb_ch g (by omega))
          refine ⟨τ, fun kx => ?_, h4, f0.tr f⟩
          unfold fX12_drift_46b fX12_drift_62
          rw [e0, bv_some, e]
          simp (disch := omega) only [lt_eq, bi_some, bv_some, ↓lim1, pk_m1f, fI_add1, li0, li1, li2, li3, li4, li5, li6, li7, li8, li9, li10, li12, li15, li16, li19, li20, li26, li30, li31, li32, li48, li57, li59, li60, li64, li99, li100, li128, li240, li255, li480, li999, li1000, li9000, li9999, liF, nI_add, sb_nI, pk_mul, dv_nI, cl_nI, inbT, le_nI, lt_nI, eq_nI, fI_le, fI_eq, st_ne, st_at, iT, iF, Nat.zero_add, Nat.add_zero, not_true_eq_false, not_false_eq_true, true_and, and_true, false_and, and_false, or_true, true_or, or_false, false_or, Nat.reduceEqDiff, Nat.reduceLeDiff, Nat.reduceLT, Nat.reduceAdd, Nat.reduceSub, Nat.reduceMul, Nat.reduceDiv, Nat.reduceMod, ↓reduceIte, show ¬ N ≤ i by omega, rm_P h, show ¬ a 0 4 ≤ 0 by omega]
      obtain ⟨τ, e, h4, f⟩ := hst
      obtain ⟨υ, e5, h5, f5⟩ := ih (i + 1) fu N (drA a) τ (by omega) (by omega) h3 h4 (gb_drA g (by omega)) (by rw [drA_1 g]; omega)
      refine ⟨υ, ?_, h5, f.tr f5⟩
      rw [fX12_drift_46_s, e]
      exact e5
theorem M_drift {a : Ab} {σ : Sg} (h : RelM a σ) (g : Gb a) (x : Int32) : OkM σ (fX12_drift σ x) (sp_drift a x) := by
  have hy := gb_yr g
  unfold fX12_drift sp_drift
  rw [in_rg1 (n := 60) σ x (by decide) (by omega), bi_some, isHills_spec h g, bi_some]
  by_cases q : isR (60 + 1) x ∧ ¬ x = 0
  · rw [if_pos q, if_pos q, if_neg (by decide)]
    by_cases z : a 0 1 = 0
    · rw [if_pos z, if_pos z, if_pos (by decide)]
      exact OkM.same h rfl
    · rw [if_neg z, if_neg z, if_neg (by decide), if_pos (show inb 1 60 by decide), show (1 : Int32).toNatClampNeg = 1 by decide, rm_w h (show 1 < 30 by omega)]
      by_cases u : a 4 1 ≤ 9000
      · rw [if_pos u, if_pos (show nI (a 4 1) ≤ 9000 by rw [li9000, le_nI (by omega) (by omega)]; exact u)]
        obtain ⟨n, hn, rfl⟩ := ix_of (by omega) q.1
        rw [dn_n (by omega)]
        obtain ⟨τ, e, h2, f⟩ := mRem h g
        obtain ⟨υ, e5, h5, f5⟩ := mDrifts n 0 FU n (remA a) τ (by omega) (by have := FU_ge; omega) (by omega) h2 (gb_rem g) (by rw [remA_4]; omega)
        rw [e, bv_some]
        exact OkM.mk e5 h5 (f.tr f5)
      · rw [if_neg u, if_neg (show ¬ nI (a 4 1) ≤ 9000 by rw [li9000, le_nI (by omega) (by omega)]; exact u)]
        exact OkM.same h rfl
  · rw [if_neg q, if_neg q, if_pos (by decide)]
    exact OkM.same h rfl
theorem M_seed {a : Ab} {σ : Sg} (h : RelM a σ) (x : Int32) : OkM σ (fX12_seed σ x) (sp_seed a x) := by
  unfold fX12_seed sp_seed
  by_cases q : 0 ≤ x
  · rw [if_pos q, if_pos q, rm_seed h, lt_eq, lt_eq]
    have e : x = nI (dn x) := by
      obtain ⟨j, hj, e⟩ := nI_of (Int32.not_lt.mpr q)
      rw [e]
      unfold dn
      rw [nI_clamp hj]
    have := relM_sd h (dn x)
    rw [← e] at this
    exact OkM.mk rfl this (fr_st (by omega))
  · rw [if_neg q, if_neg q]
    exact OkM.same h rfl
theorem M_tear {a : Ab} {σ : Sg} (h : RelM a σ) (g : Gb a) : OkM σ (fX12_tear σ) (sp_tear a) := by
  unfold fX12_tear sp_tear
  rw [rm_rets h, rm_booked h]
  simp (disch := omega) only [lt_eq, bi_some, bv_some, ↓lim1, pk_m1f, fI_add1, li0, li1, li2, li3, li4, li5, li6, li7, li8, li9, li10, li12, li15, li16, li19, li20, li26, li30, li31, li32, li48, li57, li59, li60, li64, li99, li100, li128, li240, li255, li480, li999, li1000, li9000, li9999, liF, nI_add, sb_nI, pk_mul, dv_nI, cl_nI, inbT, le_nI, lt_nI, eq_nI, fI_le, fI_eq, st_ne, st_at, iT, iF, Nat.zero_add, Nat.add_zero, not_true_eq_false, not_false_eq_true, true_and, and_true, false_and, and_false, or_true, true_or, or_false, false_or, Nat.reduceEqDiff, Nat.reduceLeDiff, Nat.reduceLT, Nat.reduceAdd, Nat.reduceSub, Nat.reduceMul, Nat.reduceDiv, Nat.reduceMod, ↓reduceIte]
  refine OkM.mk rfl (relM_tear h (fun n k hn => ?_) rfl rfl rfl rfl rfl rfl rfl rfl rfl rfl (fun k hk => ?_) (fun i => va_up_ne _ _ (by omega)) (fun i => va_up_ne _ _ (by omega)) rfl rfl ?_ ?_) ((fr_st (by omega)).tr (fr_st (by omega)))
  · simp at hn
    rw [st_eq, if_neg (by omega), st_eq, if_neg (by omega)]
  · show va_up (va_up (a 5) 4 0) 5 0 k = a 5 k
    rw [va_up_ne _ _ hk.1, va_up_ne _ _ hk.2]
  · rw [st_at, if_pos rfl]; rfl
  · rw [st_eq, if_neg (by omega), st_at, if_pos rfl]; rfl
theorem gb_booked {a : Ab} (g : Gb a) : a 5 5 ≤ 15 := g.2.2.2.1.2.2.2.2.2
theorem mJudge {a : Ab} {σ : Sg} (h : RelM a σ) (g : Gb a) : ∀ (d k fu : Nat), k + d = a 5 5 → d < fu → fX12_judge_2 fu (fun σ_7 => some ((-1), σ_7)) σ (nI k) = some (fI (jdg a d k), σ) := by
  have hb := gb_booked g
  have hP := gb_P g
  intro d
  induction d with
  | zero =>
    intro k fu h1 h2
    cases fu with
    | zero => omega
    | succ fu =>
      rw [fX12_judge_2_s]
      unfold fX12_judge_2b jdg
      simp (disch := omega) only [lt_eq, bi_some, bv_some, ↓lim1, pk_m1f, fI_add1, li0, li1, li2, li3, li4, li5, li6, li7, li8, li9, li10, li12, li15, li16, li19, li20, li26, li30, li31, li32, li48, li57, li59, li60, li64, li99, li100, li128, li240, li255, li480, li999, li1000, li9000, li9999, liF, nI_add, sb_nI, pk_mul, dv_nI, cl_nI, inbT, le_nI, lt_nI, eq_nI, fI_le, fI_eq, st_ne, st_at, iT, iF, Nat.zero_add, Nat.add_zero, not_true_eq_false, not_false_eq_true, true_and, and_true, false_and, and_false, or_true, true_or, or_false, false_or, Nat.reduceEqDiff, Nat.reduceLeDiff, Nat.reduceLT, Nat.reduceAdd, Nat.reduceSub, Nat.reduceMul, Nat.reduceDiv, Nat.reduceMod, ↓reduceIte, rm_booked h, show a 5 5 ≤ k by omega]
  | succ d ih =>
    intro k fu h1 h2
    cases fu with
    | zero => omega
    | succ fu =>
      have hk : k < a 5 5 := by omega
      have g8 := g.2.2.2.2.2.2.2.1 k hk
      have hh := wc_harm (gb_w g) g8.1
      rw [fX12_judge_2_s]
      unfold fX12_judge_2b jdg
      simp (disch := omega) only [lt_eq, bi_some, bv_some, ↓lim1, pk_m1f, fI_add1, li0, li1, li2, li3, li4, li5, li6, li7, li8, li9, li10, li12, li15, li16, li19, li20, li26, li30, li31, li32, li48, li57, li59, li60, li64, li99, li100, li128, li240, li255, li480, li999, li1000, li9000, li9999, liF, nI_add, sb_nI, pk_mul, dv_nI, cl_nI, inbT, le_nI, lt_nI, eq_nI, fI_le, fI_eq, st_ne, st_at, iT, iF, Nat.zero_add, Nat.add_zero, not_true_eq_false, not_false_eq_true, true_and, and_true, false_and, and_false, or_true, true_or, or_false, false_or, Nat.reduceEqDiff, Nat.reduceLeDiff, Nat.reduceLT, Nat.reduceAdd, Nat.reduceSub, Nat.reduceMul, Nat.reduceDiv, Nat.reduceMod, ↓reduceIte, rm_booked h, show ¬ a 5 5 ≤ k by omega, rm_bookOf h hk, rm_bookHarm h hk, rm_w h]
      by_cases q : a 4 (19 + a 9 k) = a 10 k
      · rw [if_pos q, if_pos q]
        exact ih (k + 1) fu (by omega) (by omega)
      · rw [if_neg q, if_neg q, fI_s]
theorem M_judge {a : Ab} {σ : Sg} (h : RelM a σ) (g : Gb a) : OkM σ (fX12_judge σ) (sp_judge a, a) := by
  have hb := gb_booked g
  unfold fX12_judge sp_judge
  exact OkM.same h (mJudge h g (a 5 5) 0 FU (by omega) (by have := FU_ge; omega))
theorem M_write {a : Ab} {σ : Sg} (h : RelM a σ) (g : Gb a) (x y : Int32) : OkM σ (fX12_write σ x y) (sp_write a x y) := by
  have hP := gb_P g
  have hb := gb_booked g
  unfold fX12_write sp_write
  rw [mPers h g, bi_some, in_rg (n := 9999) σ y (by decide) (by omega), bi_some]
  by_cases q : isR (a 0 4) x
  · rw [if_pos q, if_pos q, if_neg (by decide)]
    by_cases z : isR (9999 + 1) y
    · rw [if_pos z, if_pos z, if_neg (by decide), rm_booked h]
      by_cases u : a 5 5 = 15
      · simp (disch := omega) only [lt_eq, bi_some, bv_some, ↓lim1, pk_m1f, fI_add1, li0, li1, li2, li3, li4, li5, li6, li7, li8, li9, li10, li12, li15, li16, li19, li20, li26, li30, li31, li32, li48, li57, li59, li60, li64, li99, li100, li128, li240, li255, li480, li999, li1000, li9000, li9999, liF, nI_add, sb_nI, pk_mul, dv_nI, cl_nI, inbT, le_nI, lt_nI, eq_nI, fI_le, fI_eq, st_ne, st_at, iT, iF, Nat.zero_add, Nat.add_zero, not_true_eq_false, not_false_eq_true, true_and, and_true, false_and, and_false, or_true, true_or, or_false, false_or, Nat.reduceEqDiff, Nat.reduceLeDiff, Nat.reduceLT, Nat.reduceAdd, Nat.reduceSub, Nat.reduceMul, Nat.reduceDiv, Nat.reduceMod, ↓reduceIte, u]
        exact OkM.same h rfl
      · obtain ⟨p, hp, rfl⟩ := ix_of (by omega) q
        obtain ⟨n, hn, rfl⟩ := ix_of (by omega) z
        rw [dn_n (by omega), dn_n (by omega)]
        simp (disch := omega) only [lt_eq, bi_some, bv_some, ↓lim1, pk_m1f, fI_add1, li0, li1, li2, li3, li4, li5, li6, li7, li8, li9, li10, li12, li15, li16, li19, li20, li26, li30, li31, li32, li48, li57, li59, li60, li64, li99, li100, li128, li240, li255, li480, li999, li1000, li9000, li9999, liF, nI_add, sb_nI, pk_mul, dv_nI, cl_nI, inbT, le_nI, lt_nI, eq_nI, fI_le, fI_eq, st_ne, st_at, iT, iF, Nat.zero_add, Nat.add_zero, not_true_eq_false, not_false_eq_true, true_and, and_true, false_and, and_false, or_true, true_or, or_false, false_or, Nat.reduceEqDiff, Nat.reduceLeDiff, Nat.reduceLT, Nat.reduceAdd, Nat.reduceSub, Nat.reduceMul, Nat.reduceDiv, Nat.reduceMod, ↓reduceIte, u, rm_booked h]
        refine OkM.mk rfl (relM_book h (fun n k hn => ?_) rfl rfl rfl rfl rfl rfl rfl rfl (fun k hk => va_up_ne _ _ hk) (fun i => ?_) (fun i => ?_) ?_ (fun r hr => ?_)) (((fr_st (by omega)).tr (fr_st (by omega))).tr (fr_st (by omega)))
        · simp at hn
          rw [st_eq, if_neg (by omega), st_eq, if_neg (by omega), st_eq, if_neg (by omega)]
        · rw [va_up_ne _ _ (by omega), va_up_ne _ _ (by omega), va_up_ne _ _ (by omega)]
        · rw [va_up_ne _ _ (by omega), va_up_ne _ _ (by omega), va_up_ne _ _ (by omega)]
        · rw [st_at, if_pos rfl]
          exact congrArg nI (va_up_self (a 5) 5 _).symm
        · have e5 : va_up (va_up (va_up a 9 (va_up (a 9) (a 5 5) p)) 10 (va_up (a 10) (a 5 5) n)) 5 (va_up (a 5) 5 (a 5 5 + 1)) 5 5 = a 5 5 + 1 := va_up_self (a 5) 5 _
          rw [e5] at hr
          rw [st_ne (by omega), st_ne (by omega), st_at, st_ne (by omega), st_at, st_ne (by omega)]
          show _ = nI (va_up (a 9) (a 5 5) p r) ∧ _ = nI (va_up (a 10) (a 5 5) n r)
          unfold va_up
          by_cases y : r = a 5 5
          · rw [if_pos y, if_pos y, if_pos y, if_pos y]
            exact ⟨rfl, rfl⟩
          · rw [if_neg y, if_neg y, if_neg y, if_neg y]
            exact ⟨rm_bookOf h (by omega), rm_bookHarm h (by omega)⟩
    · rw [if_neg z, if_neg z, if_pos (by decide)]
      exact OkM.same h rfl
  · rw [if_neg q, if_neg q, if_pos (by decide)]
    exact OkM.same h rfl
