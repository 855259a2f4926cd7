/-! the class: draws, years -/
theorem lN_mask (v : Nat) : lN v &&& 2147483647 = lN (v % 2147483648) := by
  apply Int64.toBitVec_inj.mp
  apply BitVec.eq_of_toNat_eq
  rw [Int64.toBitVec_and, BitVec.toNat_and, show (2147483647 : Int64).toBitVec.toNat = 2 ^ 31 - 1 by decide, Nat.and_two_pow_sub_one_eq_mod]
  have e : ∀ n : Nat, (lN n).toBitVec.toNat = n % 18446744073709551616 := fun n => by
    unfold lN
    simp
  rw [e, e]
  omega
theorem sd_64c {s : Nat} (hs : s < 2147483648) : ((((nI s).toInt64 * 1103515245) + 12345) &&& 2147483647).toInt32 = nI (sd s) := by
  rw [nI_l (by omega), show (1103515245 : Int64) = lN 1103515245 by decide, show (12345 : Int64) = lN 12345 by decide, lN_mul, lN_add, lN_mask, lN_i]
  rfl
theorem RelC.sd {a : Ab} {h : Nat} {σ : Sg} (x : RelC a h σ) (s : Nat) : RelC (sdA a s) h (st σ 113 0 (nI s)) := by
  obtain ⟨x1, x2, x3, x4, x5, x6, x7, x8⟩ := x
  have e5 : ∀ k, k ≠ 0 → sdA a s 5 k = a 5 k := fun k hk => va_up_ne _ _ hk
  have ep : (fun i => sdA a s (20 + i)) = fun i => a (20 + i) := by funext i; exact va_up_ne _ _ (by omega)
  have ei : (fun i => sdA a s (40 + i)) = fun i => a (40 + i) := by funext i; exact va_up_ne _ _ (by omega)
  have ek : (fun i => sdA a s 5 (6 + i)) = fun i => a 5 (6 + i) := by funext i; exact e5 _ (by omega)
  refine ⟨x1.to (fun m hm => st_ne (by omega)), x2.to (fun m h1 h2 => st_ne (by omega)), ?_, ?_, ?_, ?_, ?_, ?_⟩
  · show PaC (a 0 3) (a 0 4) (sdA a s 5 3) (fun i => sdA a s (20 + i)) _
    rw [ep, e5 3 (by omega)]; exact x3.to (fun m h1 h2 => st_ne (by omega))
  · show ImC (a 0 3) (a 0 4) (fun i => sdA a s 5 (6 + i)) (fun i => sdA a s (40 + i)) _
    rw [ei, ek]; exact x4.to (fun m h1 h2 => st_ne (by omega))
  · rw [st_at, if_pos rfl, sdA_5]
  · rw [e5 4 (by omega)]; exact x6.to (fun m h1 h2 => st_ne (by omega))
  · rw [e5 5 (by omega)]; exact x7.to (fun m h1 h2 => st_ne (by omega))
  · rw [e5 1 (by omega), e5 2 (by omega)]; exact x8.to (fun m h1 h2 => st_ne (by omega))
theorem cDraw {a : Ab} {h : Nat} {σ : Sg} (x : RelC a h σ) (g : Gb a) {n : Nat} (h0 : 0 < n) (hn : n ≤ 1000) : fX3_next σ (nI n) = some (nI (sd (a 5 0) / 65536 % n), st σ 113 0 (nI (sd (a 5 0)))) := by
  have hs := g.2.2.2.1.1
  have hd := sd_lt (a 5 0)
  unfold fX3_next
  rw [x.2.2.2.2.1, sd_64c hs, lt_eq, st_at, if_pos rfl, if_neg (show ¬ nI n ≤ 0 by rw [li0, le_nI (by omega) (by omega)]; omega), if_pos (show ¬ nI n = 0 by rw [li0, eq_nI (by omega) (by omega)]; omega), show (65536 : Int32) = nI 65536 by decide, pk_div (by omega) (by omega) (by omega), pk_rem (by omega) h0 (by omega)]
theorem cYearA {a : Ab} {h : Nat} {σ : Sg} (x : RelC a h σ) (g : Gb a) : ∃ τ, fX2_passYear σ = some τ ∧ RelC (yrA a) h τ ∧ FrC σ τ := by
  have hy := gb_yr g
  have y := cYear x.1 g (gb_w g) (by omega)
  rw [sw_self x.2.1] at y
  exact ⟨_, y, x.sw _, frc_sw _ _ _⟩
theorem sw_b {a b : Ab} (e : b 0 = a 0) (σ : Sg) (w : Nat → Nat) : sw b σ w = sw a σ w := by unfold sw; rw [e]
theorem cChance {a : Ab} {h : Nat} {σ : Sg} (x : RelC a h σ) (g : Gb a) : ∃ τ, fX2_actByDraws σ = some τ ∧ RelC (if a 0 4 = 0 then a else chA a) h τ ∧ FrC σ τ := by
  have hP := gb_P g
  unfold fX2_actByDraws
  rw [hl_gk x.1, hl_P x.1]
  by_cases hP0 : a 0 4 = 0
  · rw [if_pos hP0, if_pos (show nI (a 0 4) = 0 by rw [hP0]; rfl)]
    exact ⟨σ, rfl, x, FrC.rf σ⟩
  rw [if_neg hP0, if_neg (show ¬ nI (a 0 4) = 0 by rw [li0, eq_nI (by omega) (by omega)]; exact hP0)]
  unfold chA chB
  have d1 := cDraw x g (n := 4) (by omega) (by omega)
  have x1 := x.sd (sd (a 5 0))
  have g1 := gb_sd g (sd_lt (a 5 0))
  have d2 := cDraw x1 g1 (n := a 0 4) (by omega) (by omega)
  rw [sdA_5] at d2
  have x2 := x1.sd (sd (sd (a 5 0)))
  rw [sdA_sdA] at x2
  have g2 := gb_sd g (sd_lt (sd (a 5 0)))
  have d3 := cDraw x2 g2 (n := 100) (by omega) (by omega)
  rw [sdA_5] at d3
  have x3 := x2.sd (sd (sd (sd (a 5 0))))
  rw [sdA_sdA] at x3
  have g3 := gb_sd g (sd_lt (sd (sd (a 5 0))))
  have hk : sd (a 5 0) / 65536 % 4 < 4 := Nat.mod_lt _ (by omega)
  have hp : sd (sd (a 5 0)) / 65536 % a 0 4 < a 0 4 := Nat.mod_lt _ (by omega)
  have hn : sd (sd (sd (a 5 0))) / 65536 % 100 < 100 := Nat.mod_lt _ (by omega)
  rw [show (4 : Int32) = nI 4 by decide, d1, bi_some, hl_gk x1.1, hl_P x1.1, show sdA a (sd (a 5 0)) 0 4 = a 0 4 from rfl, d2, bi_some, show (100 : Int32) = nI 100 by decide, d3, bi_some]
  have fr : FrC σ (st (st (st σ 113 0 (nI (sd (a 5 0)))) 113 0 (nI (sd (sd (a 5 0))))) 113 0 (nI (sd (sd (sd (a 5 0)))))) := ((frc_st (by omega)).tr (frc_st (by omega))).tr (frc_st (by omega))
  generalize st (st (st σ 113 0 (nI (sd (a 5 0)))) 113 0 (nI (sd (sd (a 5 0))))) 113 0 (nI (sd (sd (sd (a 5 0))))) = τ at x3 fr ⊢
  generalize sd (a 5 0) / 65536 % 4 = k at hk ⊢
  generalize sd (sd (a 5 0)) / 65536 % a 0 4 = p at hp ⊢
  generalize hN : sd (sd (sd (a 5 0))) / 65536 % 100 = n at hn ⊢
  generalize hS : sdA a (sd (sd (sd (a 5 0)))) = b at x3 g3 ⊢
  have e4 : b 4 = a 4 := by rw [← hS]; rfl
  have e0 : b 0 = a 0 := by rw [← hS]; rfl
  have e1 : b 1 = a 1 := by rw [← hS]; rfl
  have hw := gb_w g
  have hpb : p < b 0 4 := by rw [e0]; exact hp
  have hPb := gb_P g3
  have eS : sw b τ (a 4) = τ := by rw [← e4]; exact sw_self x3.2.1
  have q4 := (wc_set (gb_w g3) hPb).2
  rw [cPers x3.1, bi_some, if_pos (show isR (b 0 4) (nI p) from ix_mk (by omega) hpb), if_neg (by decide)]
  simp (disch := omega) only [lt_eq, bi_some, bv_some, ↓lim1, pk_m1f, fI_add1, li0, li1, li2, li3, li4, li5, li6, li7, li8, li9, li10, li12, li15, li16, li19, li20, li26, li30, li31, li32, li48, li57, li59, li60, li64, li99, li100, li128, li240, li255, li480, li999, li1000, li9000, li9999, liF, nI_add, sb_nI, pk_mul, dv_nI, cl_nI, inbT, le_nI, lt_nI, eq_nI, fI_le, fI_eq, st_ne, st_at, iT, iF, Nat.zero_add, Nat.add_zero, not_true_eq_false, not_false_eq_true, true_and, and_true, false_and, and_false, or_true, true_or, or_false, false_or, Nat.reduceEqDiff, Nat.reduceLeDiff, Nat.reduceLT, Nat.reduceAdd, Nat.reduceSub, Nat.reduceMul, Nat.reduceDiv, Nat.reduceMod, ↓reduceIte]
  by_cases q : 1 < k
  · rw [if_pos q, if_pos (show 2 ≤ k by omega)]
    by_cases z : k = 3
    · rw [if_pos z, if_pos z]
      refine ⟨sw b τ (va_up (a 4) (5 + p) (n % 9 + 1)), ?_, x3.sw _, fr.tr (frc_sw _ _ _)⟩
      conv => lhs; rw [← eS]
      simp (disch := omega) only [lt_eq, bi_some, bv_some, ↓lim1, pk_m1f, fI_add1, li0, li1, li2, li3, li4, li5, li6, li7, li8, li9, li10, li12, li15, li16, li19, li20, li26, li30, li31, li32, li48, li57, li59, li60, li64, li99, li100, li128, li240, li255, li480, li999, li1000, li9000, li9999, liF, nI_add, sb_nI, pk_mul, dv_nI, cl_nI, inbT, le_nI, lt_nI, eq_nI, fI_le, fI_eq, st_ne, st_at, iT, iF, Nat.zero_add, Nat.add_zero, not_true_eq_false, not_false_eq_true, true_and, and_true, false_and, and_false, or_true, true_or, or_false, false_or, Nat.reduceEqDiff, Nat.reduceLeDiff, Nat.reduceLT, Nat.reduceAdd, Nat.reduceSub, Nat.reduceMul, Nat.reduceDiv, Nat.reduceMod, ↓reduceIte, show n - n / 9 * 9 + 1 = n % 9 + 1 by omega, sw_st_wit hPb hpb]
    · rw [if_neg z, if_neg z, cAns (Cs.of x3) g3 (gb_w g3) hpb hpb, bi_some, e4]
      by_cases u : 0 < a 4 (12 + p) ∧ bt (a 4 3) p = 0
      · rw [if_pos u, if_pos u]
        obtain ⟨u1, v1, e⟩ := cAnswer x3.1 g3 hpb hpb
        have eb : brg b p (b 4 (12 + p)) = brg a p (a 4 (12 + p)) := by
          unfold brg
          rw [e4, e0, e1]
        rw [eb, e4, eS] at e
        rw [e, bv_some]
        simp (disch := omega) only [lt_eq, bi_some, bv_some, ↓lim1, pk_m1f, fI_add1, li0, li1, li2, li3, li4, li5, li6, li7, li8, li9, li10, li12, li15, li16, li19, li20, li26, li30, li31, li32, li48, li57, li59, li60, li64, li99, li100, li128, li240, li255, li480, li999, li1000, li9000, li9999, liF, nI_add, sb_nI, pk_mul, dv_nI, cl_nI, inbT, le_nI, lt_nI, eq_nI, fI_le, fI_eq, st_ne, st_at, iT, iF, Nat.zero_add, Nat.add_zero, not_true_eq_false, not_false_eq_true, true_and, and_true, false_and, and_false, or_true, true_or, or_false, false_or, Nat.reduceEqDiff, Nat.reduceLeDiff, Nat.reduceLT, Nat.reduceAdd, Nat.reduceSub, Nat.reduceMul, Nat.reduceDiv, Nat.reduceMod, ↓reduceIte]
        exact ⟨_, rfl, (x3.bs u1 v1).sw _, fr.tr ((frc_bs _ _ _).tr (frc_sw _ _ _))⟩
      · rw [if_neg u, if_neg u]
        simp (disch := omega) only [lt_eq, bi_some, bv_some, ↓lim1, pk_m1f, fI_add1, li0, li1, li2, li3, li4, li5, li6, li7, li8, li9, li10, li12, li15, li16, li19, li20, li26, li30, li31, li32, li48, li57, li59, li60, li64, li99, li100, li128, li240, li255, li480, li999, li1000, li9000, li9999, liF, nI_add, sb_nI, pk_mul, dv_nI, cl_nI, inbT, le_nI, lt_nI, eq_nI, fI_le, fI_eq, st_ne, st_at, iT, iF, Nat.zero_add, Nat.add_zero, not_true_eq_false, not_false_eq_true, true_and, and_true, false_and, and_false, or_true, true_or, or_false, false_or, Nat.reduceEqDiff, Nat.reduceLeDiff, Nat.reduceLT, Nat.reduceAdd, Nat.reduceSub, Nat.reduceMul, Nat.reduceDiv, Nat.reduceMod, ↓reduceIte]
        exact ⟨τ, rfl, x3, fr⟩
  · rw [if_neg q, if_neg (show ¬ 2 ≤ k by omega)]
    have t := cForetell (a := b) (σ := τ) (a 4) hPb (by rw [← e4]; exact q4) (n := n) hpb
    rw [eS] at t
    rw [t, bv_some]
    exact ⟨_, rfl, x3.sw _, fr.tr (frc_sw _ _ _)⟩
theorem cYears : ∀ (d i fu N : Nat) (a : Ab) (h : Nat) (σ : Sg), i + d = N → d < fu → N ≤ 60 → RelC a h σ → Gb a → a 4 1 + d ≤ 9060 → ∃ τ, fX11_year_28 fu (fun σ_7 => some ((σ_7 11 1), σ_7)) σ (nI N) (nI i) = some (nI (fo (fun _ b => yrA b) d i a 4 2), τ) ∧ RelC (fo (fun _ b => yrA b) d i a) h τ ∧ FrC σ τ := by
  intro d
  induction d with
  | zero =>
    intro i fu N a h σ h1 h2 h3 x g hy
    cases fu with
    | zero => omega
    | succ fu =>
      refine ⟨σ, ?_, x, FrC.rf σ⟩
      rw [fX11_year_28_s]
      unfold fX11_year_28b fo
      simp (disch := omega) only [lt_eq, bi_some, bv_some, ↓lim1, pk_m1f, fI_add1, li0, li1, li2, li3, li4, li5, li6, li7, li8, li9, li10, li12, li15, li16, li19, li20, li26, li30, li31, li32, li48, li57, li59, li60, li64, li99, li100, li128, li240, li255, li480, li999, li1000, li9000, li9999, liF, nI_add, sb_nI, pk_mul, dv_nI, cl_nI, inbT, le_nI, lt_nI, eq_nI, fI_le, fI_eq, st_ne, st_at, iT, iF, Nat.zero_add, Nat.add_zero, not_true_eq_false, not_false_eq_true, true_and, and_true, false_and, and_false, or_true, true_or, or_false, false_or, Nat.reduceEqDiff, Nat.reduceLeDiff, Nat.reduceLT, Nat.reduceAdd, Nat.reduceSub, Nat.reduceMul, Nat.reduceDiv, Nat.reduceMod, ↓reduceIte, show N ≤ i by omega, cs_owed (Cs.of x)]
  | succ d ih =>
    intro i fu N a h σ h1 h2 h3 x g hy
    cases fu with
    | zero => omega
    | succ fu =>
      obtain ⟨τ, e, x4, f⟩ := cYearA x g
      obtain ⟨υ, e5, x5, f5⟩ := ih (i + 1) fu N (yrA a) h τ (by omega) (by omega) h3 x4 (gb_yrA g (by omega)) (by rw [yrA_1]; omega)
      refine ⟨υ, ?_, x5, f.tr f5⟩
      rw [fX11_year_28_s]
      unfold fX11_year_28b
      rw [e]
      simp (disch := omega) only [lt_eq, bi_some, bv_some, ↓lim1, pk_m1f, fI_add1, li0, li1, li2, li3, li4, li5, li6, li7, li8, li9, li10, li12, li15, li16, li19, li20, li26, li30, li31, li32, li48, li57, li59, li60, li64, li99, li100, li128, li240, li255, li480, li999, li1000, li9000, li9999, liF, nI_add, sb_nI, pk_mul, dv_nI, cl_nI, inbT, le_nI, lt_nI, eq_nI, fI_le, fI_eq, st_ne, st_at, iT, iF, Nat.zero_add, Nat.add_zero, not_true_eq_false, not_false_eq_true, true_and, and_true, false_and, and_false, or_true, true_or, or_false, false_or, Nat.reduceEqDiff, Nat.reduceLeDiff, Nat.reduceLT, Nat.reduceAdd, Nat.reduceSub, Nat.reduceMul, Nat.reduceDiv, Nat.reduceMod, ↓reduceIte, show ¬ N ≤ i by omega]
      exact e5
theorem cDrifts : ∀ (d i fu N : Nat) (a : Ab) (h : Nat) (σ : Sg), i + d = N → d < fu → N ≤ 60 → RelC a h σ → Gb a → a 4 1 + d ≤ 9060 → ∃ τ, fX11_drift_28 fu (fun σ_8 => some ((σ_8 11 1), σ_8)) σ (nI N) (nI i) = some (nI (fo (fun _ b => drA b) d i a 4 2), τ) ∧ RelC (fo (fun _ b => drA b) d i a) h τ ∧ FrC σ τ := by
  intro d
  induction d with
  | zero =>
    intro i fu N a h σ h1 h2 h3 x g hy
    cases fu with
    | zero => omega
    | succ fu =>
      refine ⟨σ, ?_, x, FrC.rf σ⟩
      rw [fX11_drift_28_s]
      unfold fX11_drift_28b fo
      simp (disch := omega) only [lt_eq, bi_some, bv_some, ↓lim1, pk_m1f, fI_add1, li0, li1, li2, li3, li4, li5, li6, li7, li8, li9, li10, li12, li15, li16, li19, li20, li26, li30, li31, li32, li48, li57, li59, li60, li64, li99, li100, li128, li240, li255, li480, li999, li1000, li9000, li9999, liF, nI_add, sb_nI, pk_mul, dv_nI, cl_nI, inbT, le_nI, lt_nI, eq_nI, fI_le, fI_eq, st_ne, st_at, iT, iF, Nat.zero_add, Nat.add_zero, not_true_eq_false, not_false_eq_true, true_and, and_true, false_and, and_false, or_true, true_or, or_false, false_or, Nat.reduceEqDiff, Nat.reduceLeDiff, Nat.reduceLT, Nat.reduceAdd, Nat.reduceSub, Nat.reduceMul, Nat.reduceDiv, Nat.reduceMod, ↓reduceIte, show N ≤ i by omega, cs_owed (Cs.of x)]
  | succ d ih =>
    intro i fu N a h σ h1 h2 h3 x g hy
    cases fu with
    | zero => omega
    | succ fu =>
      obtain ⟨τ0, e0, x0, f0⟩ := cChance x g
      have g0 : Gb (if a 0 4 = 0 then a else chA a) := by
        by_cases q : a 0 4 = 0
        · rw [if_pos q]; exact g
        · rw [if_neg q]; exact gb_ch g (by omega)
      obtain ⟨τ, e, x4, f⟩ := cYearA x0 g0
      obtain ⟨υ, e5, x5, f5⟩ := ih (i + 1) fu N (drA a) h τ (by omega) (by omega) h3 x4 (gb_drA g (by omega)) (by rw [drA_1 g]; omega)
      refine ⟨υ, ?_, x5, (f0.tr f).tr f5⟩
      rw [fX11_drift_28_s]
      unfold fX11_drift_28b
      rw [e0, bv_some, e]
      simp (disch := omega) only [lt_eq, bi_some, bv_some, ↓lim1, pk_m1f, fI_add1, li0, li1, li2, li3, li4, li5, li6, li7, li8, li9, li10, li12, li15, li16, li19, li20, li26, li30, li31, li32, li48, li57, li59, li60, li64, li99, li100, li128, li240, li255, li480, li999, li1000, li9000, li9999, liF, nI_add, sb_nI, pk_mul, dv_nI, cl_nI, inbT, le_nI, lt_nI, eq_nI, fI_le, fI_eq, st_ne, st_at, iT, iF, Nat.zero_add, Nat.add_zero, not_true_eq_false, not_false_eq_true, true_and, and_true, false_and, and_false, or_true, true_or, or_false, false_or, Nat.reduceEqDiff, Nat.reduceLeDiff, Nat.reduceLT, Nat.reduceAdd, Nat.reduceSub, Nat.reduceMul, Nat.reduceDiv, Nat.reduceMod, ↓reduceIte, show ¬ N ≤ i by omega]
      exact e5
