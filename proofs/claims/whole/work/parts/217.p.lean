/-! the reference's calls: years, draws -/
theorem mYearA {a : Ab} {σ : Sg} (h : RelM a σ) (g : Gb a) : ∃ τ, fX12_yearOf σ 0 = some τ ∧ RelM (yrA a) τ ∧ Fr σ τ := by
  have hy := gb_yr g
  have y := (mYear (Hm.of h) g (r := 0) (w := a 4) (by omega) (gb_w g) (by omega)).1
  rw [wr_self h] at y
  exact ⟨_, y, relM_w h _, fr_wr _ _ _⟩
theorem gb_yrA {a : Ab} (g : Gb a) (hy : a 4 1 < 9060) : Gb (yrA a) := by
  have hP := gb_P g
  have hV := gb_V g
  refine gb_row4 g ⟨by rw [yr_yrs]; omega, ?_⟩
  exact (mYear (σ := fun n k => if n = 132 ∧ k = 0 then nI (a 0 1) else if n = 132 ∧ k = 2 then nI (a 0 3) else if n = 132 ∧ k = 3 then nI (a 0 4) else nI (a 2 k)) ⟨rfl, rfl, rfl, fun p hp => rfl⟩ g (r := 0) (w := a 4) (by omega) (gb_w g) (by omega)).2
theorem yrA_1 (a : Ab) : yrA a 4 1 = a 4 1 + 1 := yr_yrs a (a 4)
theorem mYears : ∀ (d i fu N : Nat) (a : Ab) (σ : Sg), i + d = N → d < fu → N ≤ 60 → RelM a σ → Gb a → a 4 1 + d ≤ 9060 → ∃ τ, fX12_year_46 fu (fun σ_11 => (if inb 2 60 then some ((σ_11 136 (2 : Int32).toNatClampNeg), σ_11) else none)) σ (nI N) (nI i) = some (nI (fo (fun _ b => yrA b) d i a 4 2), τ) ∧ RelM (fo (fun _ b => yrA b) d i a) τ ∧ Fr σ τ := by
  intro d
  induction d with
  | zero =>
    intro i fu N a σ h1 h2 h3 h g hy
    cases fu with
    | zero => omega
    | succ fu =>
      refine ⟨σ, ?_, h, Fr.rf σ⟩
      rw [fX12_year_46_s]
      unfold fX12_year_46b fo
      simp (disch := omega) only [lt_eq, bi_some, bv_some, ↓lim1, pk_m1f, fI_add1, li0, li1, li2, li3, li4, li5, li6, li7, li8, li9, li10, li12, li15, li16, li19, li20, li26, li30, li31, li32, li48, li57, li59, li60, li64, li99, li100, li128, li240, li255, li480, li999, li1000, li9000, li9999, liF, nI_add, sb_nI, pk_mul, dv_nI, cl_nI, inbT, le_nI, lt_nI, eq_nI, fI_le, fI_eq, st_ne, st_at, iT, iF, Nat.zero_add, Nat.add_zero, not_true_eq_false, not_false_eq_true, true_and, and_true, false_and, and_false, or_true, true_or, or_false, false_or, Nat.reduceEqDiff, Nat.reduceLeDiff, Nat.reduceLT, Nat.reduceAdd, Nat.reduceSub, Nat.reduceMul, Nat.reduceDiv, Nat.reduceMod, ↓reduceIte, show N ≤ i by omega, rm_w h]
  | succ d ih =>
    intro i fu N a σ h1 h2 h3 h g hy
    cases fu with
    | zero => omega
    | succ fu =>
      obtain ⟨τ, e, h4, f⟩ := mYearA h g
      obtain ⟨υ, e5, h5, f5⟩ := ih (i + 1) fu N (yrA a) τ (by omega) (by omega) h3 h4 (gb_yrA g (by omega)) (by rw [yrA_1]; omega)
      refine ⟨υ, ?_, h5, f.tr f5⟩
      rw [fX12_year_46_s]
      unfold fX12_year_46b
      rw [e]
      simp (disch := omega) only [lt_eq, bi_some, bv_some, ↓lim1, pk_m1f, fI_add1, li0, li1, li2, li3, li4, li5, li6, li7, li8, li9, li10, li12, li15, li16, li19, li20, li26, li30, li31, li32, li48, li57, li59, li60, li64, li99, li100, li128, li240, li255, li480, li999, li1000, li9000, li9999, liF, nI_add, sb_nI, pk_mul, dv_nI, cl_nI, inbT, le_nI, lt_nI, eq_nI, fI_le, fI_eq, st_ne, st_at, iT, iF, Nat.zero_add, Nat.add_zero, not_true_eq_false, not_false_eq_true, true_and, and_true, false_and, and_false, or_true, true_or, or_false, false_or, Nat.reduceEqDiff, Nat.reduceLeDiff, Nat.reduceLT, Nat.reduceAdd, Nat.reduceSub, Nat.reduceMul, Nat.reduceDiv, Nat.reduceMod, ↓reduceIte, show ¬ N ≤ i by omega]
      rw [li2] at e5
      simp (disch := omega) only [lt_eq, bi_some, bv_some, ↓lim1, pk_m1f, fI_add1, li0, li1, li2, li3, li4, li5, li6, li7, li8, li9, li10, li12, li15, li16, li19, li20, li26, li30, li31, li32, li48, li57, li59, li60, li64, li99, li100, li128, li240, li255, li480, li999, li1000, li9000, li9999, liF, nI_add, sb_nI, pk_mul, dv_nI, cl_nI, inbT, le_nI, lt_nI, eq_nI, fI_le, fI_eq, st_ne, st_at, iT, iF, Nat.zero_add, Nat.add_zero, not_true_eq_false, not_false_eq_true, true_and, and_true, false_and, and_false, or_true, true_or, or_false, false_or, Nat.reduceEqDiff, Nat.reduceLeDiff, Nat.reduceLT, Nat.reduceAdd, Nat.reduceSub, Nat.reduceMul, Nat.reduceDiv, Nat.reduceMod, ↓reduceIte] at e5
      exact e5
theorem M_year {a : Ab} {σ : Sg} (h : RelM a σ) (g : Gb a) (x : Int32) : OkM σ (fX12_year σ x) (sp_year a x) := by
  have hy := gb_yr g
  unfold fX12_year sp_year
  rw [in_rg1 (n := 60) σ x (by decide) (by omega), bi_some, isHills_spec h g, bi_some]
  by_cases q : isR (60 + 1) x ∧ ¬ x = 0
  · rw [if_pos q, if_pos q, if_neg (by decide)]
    by_cases z : a 0 1 = 0
    · rw [if_pos z, if_pos z, if_pos (by decide)]
      exact OkM.same h rfl
    · rw [if_neg z, if_neg z, if_neg (by decide), if_pos (show inb 1 60 by decide), show (1 : Int32).toNatClampNeg = 1 by decide, rm_w h (show 1 < 30 by omega)]
      by_cases u : a 4 1 ≤ 9000
      · rw [if_pos u, if_pos (show nI (a 4 1) ≤ 9000 by rw [li9000, le_nI (by omega) (by omega)]; exact u)]
        obtain ⟨n, hn, rfl⟩ := ix_of (by omega) q.1
        rw [dn_n (by omega)]
        obtain ⟨τ, e, h2, f⟩ := mRem h g
        obtain ⟨υ, e5, h5, f5⟩ := mYears n 0 FU n (remA a) τ (by omega) (by have := FU_ge; omega) (by omega) h2 (gb_rem g) (by rw [remA_4]; omega)
        rw [e, bv_some]
        exact OkM.mk e5 h5 (f.tr f5)
      · rw [if_neg u, if_neg (show ¬ nI (a 4 1) ≤ 9000 by rw [li9000, le_nI (by omega) (by omega)]; exact u)]
        exact OkM.same h rfl
  · rw [if_neg q, if_neg q, if_pos (by decide)]
    exact OkM.same h rfl
/-- a draw -/
def sd (s : Nat) : Nat := (s * 1103515245 + 12345) % 2147483648
theorem sd_lt (s : Nat) : sd s < 2147483648 := Nat.mod_lt _ (by omega)
def sdA (a : Ab) (s : Nat) : Ab := va_up a 5 (va_up (a 5) 0 s)
theorem relM_sd {a : Ab} {σ : Sg} (h : RelM a σ) (s : Nat) : RelM (sdA a s) (st σ 132 8 (nI s)) := by
  refine relM_seed h (fun n k hn => ?_) rfl rfl rfl rfl rfl rfl rfl rfl rfl rfl (fun k hk => va_up_ne _ _ hk) (fun i => ?_) (fun i => ?_) ?_
  · simp at hn
    rw [st_eq, if_neg (by omega)]
  · exact va_up_ne _ _ (by omega)
  · exact va_up_ne _ _ (by omega)
  · rw [st_at, if_pos rfl]
    exact congrArg nI (va_up_self (a 5) 0 s).symm
theorem gb_sd {a : Ab} (g : Gb a) {s : Nat} (hs : s < 2147483648) : Gb (sdA a s) := by
  obtain ⟨g1, g2, g3, g4, g5, g6, g7, g8, g9⟩ := g
  have eo : ∀ n, n ≠ 5 → sdA a s n = a n := fun n h5 => va_up_ne _ _ h5
  have e5 : ∀ k, k ≠ 0 → sdA a s 5 k = a 5 k := fun k hk => va_up_ne _ _ hk
  have e50 : sdA a s 5 0 = s := va_up_self (a 5) 0 s
  refine ⟨g1, g2, g3, ⟨by rw [e50]; exact hs, g4.2⟩, g5, fun i hi => ?_, g7, g8, fun i hi => ?_⟩
  · rw [eo (20 + i) (by omega)]; exact g6 i hi
  · rw [eo (40 + i) (by omega), e5 (6 + i) (by omega)]; exact g9 i hi
theorem sd_64 {s : Nat} (hs : s < 2147483648) : ((((nI s).toInt64 * 1103515245) + 12345) - (((nI s).toInt64 * 1103515245) + 12345) / 2147483648 * 2147483648).toInt32 = nI (sd s) := by
  rw [nI_l (by omega), show (1103515245 : Int64) = lN 1103515245 by decide, show (12345 : Int64) = lN 12345 by decide, show (2147483648 : Int64) = lN 2147483648 by decide, lN_mul, lN_add, pk_lRem (by omega) (by omega) (by omega), lN_i]
  rfl
theorem mDraw {a : Ab} {σ : Sg} (h : RelM a σ) (g : Gb a) {n : Nat} (h0 : 0 < n) (hn : n ≤ 1000) : fX12_draw σ (nI n) = some (nI (sd (a 5 0) / 65536 % n), st σ 132 8 (nI (sd (a 5 0)))) := by
  have hs := g.2.2.2.1.1
  have hd := sd_lt (a 5 0)
  unfold fX12_draw
  rw [rm_seed h, sd_64 hs, lt_eq, st_at, if_pos rfl, if_pos (show ¬ nI n = 0 by rw [li0, eq_nI (by omega) (by omega)]; omega), show (65536 : Int32) = nI 65536 by decide, pk_div (by omega) (by omega) (by omega), pk_rem (by omega) h0 (by omega)]
/-- what a draw does -/
def chB (a : Ab) (k p n s : Nat) : Ab :=
  if 2 ≤ k then (if k = 3 then va_up (sdA a s) 4 (va_up (a 4) (5 + p) (n % 9 + 1))
    else if 0 < a 4 (12 + p) ∧ bt (a 4 3) p = 0 then va_up (sdA a s) 4 (ansW (a 4) p p (brg a p (a 4 (12 + p))).1) else sdA a s)
  else va_up (sdA a s) 4 (telW (a 4) p n)
def chA (a : Ab) : Ab := chB a (sd (a 5 0) / 65536 % 4) (sd (sd (a 5 0)) / 65536 % a 0 4) (sd (sd (sd (a 5 0))) / 65536 % 100) (sd (sd (sd (a 5 0))))
theorem sdA_5 (a : Ab) (s : Nat) : sdA a s 5 0 = s := va_up_self (a 5) 0 s
theorem sdA_sdA (a : Ab) (s t : Nat) : sdA (sdA a s) t = sdA a t := by
  funext n k
  unfold sdA va_up
  by_cases q : n = 5
  · subst q
    simp
    by_cases z : k = 0 <;> simp [z]
  · simp [q]
theorem mChance {a : Ab} {σ : Sg} (h : RelM a σ) (g : Gb a) (hP0 : 0 < a 0 4) : ∃ τ, fX12_chance σ = some τ ∧ RelM (chA a) τ ∧ Fr σ τ := by
  have hP := gb_P g
  unfold fX12_chance chA chB
  have d1 := mDraw h g (n := 4) (by omega) (by omega)
  have h1 := relM_sd h (sd (a 5 0))
  have g1 := gb_sd g (sd_lt (a 5 0))
  have d2 := mDraw h1 g1 (n := a 0 4) hP0 (by omega)
  rw [sdA_5] at d2
  have h2 := relM_sd h1 (sd (sd (a 5 0)))
  rw [sdA_sdA] at h2
  have g2 := gb_sd g (sd_lt (sd (a 5 0)))
  have d3 := mDraw h2 g2 (n := 100) (by omega) (by omega)
  rw [sdA_5] at d3
  have h3 := relM_sd h2 (sd (sd (sd (a 5 0))))
  rw [sdA_sdA] at h3
  have g3 := gb_sd g (sd_lt (sd (sd (a 5 0))))
  have hk : sd (a 5 0) / 65536 % 4 < 4 := Nat.mod_lt _ (by omega)
  have hp : sd (sd (a 5 0)) / 65536 % a 0 4 < a 0 4 := Nat.mod_lt _ hP0
  have hn : sd (sd (sd (a 5 0))) / 65536 % 100 < 100 := Nat.mod_lt _ (by omega)
  have eP : st σ 132 8 (nI (sd (a 5 0))) 132 3 = nI (a 0 4) := by rw [st_at, if_neg (by omega)]; exact rm_P h
  rw [show (4 : Int32) = nI 4 by decide, d1, bi_some, eP, d2, bi_some, show (100 : Int32) = nI 100 by decide, d3, bi_some]
  have fr : Fr σ (st (st (st σ 132 8 (nI (sd (a 5 0)))) 132 8 (nI (sd (sd (a 5 0))))) 132 8 (nI (sd (sd (sd (a 5 0)))))) := ((fr_st (by omega)).tr (fr_st (by omega))).tr (fr_st (by omega))
  generalize st (st (st σ 132 8 (nI (sd (a 5 0)))) 132 8 (nI (sd (sd (a 5 0))))) 132 8 (nI (sd (sd (sd (a 5 0))))) = τ at h3 fr ⊢
  generalize sd (a 5 0) / 65536 % 4 = k at hk ⊢
  generalize sd (sd (a 5 0)) / 65536 % a 0 4 = p at hp ⊢
  generalize hN : sd (sd (sd (a 5 0))) / 65536 % 100 = n at hn ⊢
  generalize hS : sdA a (sd (sd (sd (a 5 0)))) = b at h3 g3 ⊢
  have e4 : b 4 = a 4 := by rw [← hS]; rfl
  have e0 : b 0 = a 0 := by rw [← hS]; rfl
  have e1 : b 1 = a 1 := by rw [← hS]; rfl
  have hw := gb_w g
  have hpb : p < b 0 4 := by rw [e0]; exact hp
  simp (disch := omega) only [lt_eq, bi_some, bv_some, ↓lim1, pk_m1f, fI_add1, li0, li1, li2, li3, li4, li5, li6, li7, li8, li9, li10, li12, li15, li16, li19, li20, li26, li30, li31, li32, li48, li57, li59, li60, li64, li99, li100, li128, li240, li255, li480, li999, li1000, li9000, li9999, liF, nI_add, sb_nI, pk_mul, dv_nI, cl_nI, inbT, le_nI, lt_nI, eq_nI, fI_le, fI_eq, st_ne, st_at, iT, iF, Nat.zero_add, Nat.add_zero, not_true_eq_false, not_false_eq_true, true_and, and_true, false_and, and_false, or_true, true_or, or_false, false_or, Nat.reduceEqDiff, Nat.reduceLeDiff, Nat.reduceLT, Nat.reduceAdd, Nat.reduceSub, Nat.reduceMul, Nat.reduceDiv, Nat.reduceMod, ↓reduceIte]
  by_cases q : 2 ≤ k
  · rw [if_pos q, if_pos q]
    by_cases z : k = 3
    · rw [if_pos z, if_pos z]
      have ew := wr_self h3
      rw [e4] at ew
      refine ⟨wr τ 0 (va_up (a 4) (5 + p) (n % 9 + 1)), ?_, relM_w h3 _, fr.tr (fr_wr _ _ _)⟩
      conv => lhs; rw [← ew]
      simp (disch := omega) only [lt_eq, bi_some, bv_some, ↓lim1, pk_m1f, fI_add1, li0, li1, li2, li3, li4, li5, li6, li7, li8, li9, li10, li12, li15, li16, li19, li20, li26, li30, li31, li32, li48, li57, li59, li60, li64, li99, li100, li128, li240, li255, li480, li999, li1000, li9000, li9999, liF, nI_add, sb_nI, pk_mul, dv_nI, cl_nI, inbT, le_nI, lt_nI, eq_nI, fI_le, fI_eq, st_ne, st_at, iT, iF, Nat.zero_add, Nat.add_zero, not_true_eq_false, not_false_eq_true, true_and, and_true, false_and, and_false, or_true, true_or, or_false, false_or, Nat.reduceEqDiff, Nat.reduceLeDiff, Nat.reduceLT, Nat.reduceAdd, Nat.reduceSub, Nat.reduceMul, Nat.reduceDiv, Nat.reduceMod, ↓reduceIte, wr_st0, show n - n / 9 * 9 + 1 = n % 9 + 1 by omega]
    · rw [if_neg z, if_neg z, mMayGo h3 g3 hpb hpb, bi_some, e4]
      by_cases u : 0 < a 4 (12 + p) ∧ bt (a 4 3) p = 0
      · rw [if_pos u, if_pos u]
        obtain ⟨υ, e, s⟩ := mAnswers h3 g3 hpb hpb
        have eb : brg b p (b 4 (12 + p)) = brg a p (a 4 (12 + p)) := by
          unfold brg
          rw [e4, e0, e1]
        rw [eb, e4] at e
        rw [e, bv_some]
        simp (disch := omega) only [lt_eq, bi_some, bv_some, ↓lim1, pk_m1f, fI_add1, li0, li1, li2, li3, li4, li5, li6, li7, li8, li9, li10, li12, li15, li16, li19, li20, li26, li30, li31, li32, li48, li57, li59, li60, li64, li99, li100, li128, li240, li255, li480, li999, li1000, li9000, li9999, liF, nI_add, sb_nI, pk_mul, dv_nI, cl_nI, inbT, le_nI, lt_nI, eq_nI, fI_le, fI_eq, st_ne, st_at, iT, iF, Nat.zero_add, Nat.add_zero, not_true_eq_false, not_false_eq_true, true_and, and_true, false_and, and_false, or_true, true_or, or_false, false_or, Nat.reduceEqDiff, Nat.reduceLeDiff, Nat.reduceLT, Nat.reduceAdd, Nat.reduceSub, Nat.reduceMul, Nat.reduceDiv, Nat.reduceMod, ↓reduceIte]
        exact ⟨_, rfl, relM_w (s.rel h3) _, fr.tr ((Fr.of s).tr (fr_wr _ _ _))⟩
      · rw [if_neg u, if_neg u]
        simp (disch := omega) only [lt_eq, bi_some, bv_some, ↓lim1, pk_m1f, fI_add1, li0, li1, li2, li3, li4, li5, li6, li7, li8, li9, li10, li12, li15, li16, li19, li20, li26, li30, li31, li32, li48, li57, li59, li60, li64, li99, li100, li128, li240, li255, li480, li999, li1000, li9000, li9999, liF, nI_add, sb_nI, pk_mul, dv_nI, cl_nI, inbT, le_nI, lt_nI, eq_nI, fI_le, fI_eq, st_ne, st_at, iT, iF, Nat.zero_add, Nat.add_zero, not_true_eq_false, not_false_eq_true, true_and, and_true, false_and, and_false, or_true, true_or, or_false, false_or, Nat.reduceEqDiff, Nat.reduceLeDiff, Nat.reduceLT, Nat.reduceAdd, Nat.reduceSub, Nat.reduceMul, Nat.reduceDiv, Nat.reduceMod, ↓reduceIte]
        exact ⟨τ, rfl, h3, fr⟩
  · rw [if_neg q, if_neg q]
    have t := mTells h3 g3 hpb (n := n) (by omega)
    rw [e4] at t
    rw [t, bi_some]
    exact ⟨_, rfl, relM_w h3 _, fr.tr (fr_wr _ _ _)⟩
