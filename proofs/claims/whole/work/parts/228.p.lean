/-! the reference: hills -/
theorem mRead96 {r : Ab} (hP : r 0 4 ≤ 7) (h5 : ∀ p, p < r 0 4 → r 5 p ≤ 9) {S : Sg} (e3 : S 132 3 = nI (r 0 4)) (er : ∀ p, p < r 0 4 → S 139 p = nI (r 2 p) ∧ S 140 p = nI (r 3 p) ∧ S 141 p = nI (r 4 p) ∧ S 142 p = nI (r 5 p)) : ∀ (d i fu : Nat) (σ : Sg), i + d = r 0 4 → d < fu → (∀ n k, ¬ (n = 133 ∨ n = 134 ∨ n = 135) → ¬ (n = 136 ∧ 5 ≤ k ∧ k < 5 + i) → σ n k = S n k) → (∀ p, p < i → σ 133 p = nI (r 2 p) ∧ σ 134 p = nI (r 3 p) ∧ σ 135 p = fI (if r 5 p < r 0 4 then r 5 p + 1 else 0) ∧ σ 136 (5 + p) = nI (r 4 p)) → ∃ τ, fX12_takeRead_96 fu (fun σ_27 => some σ_27) σ (nI i) = some τ ∧ (∀ n k, ¬ (n = 133 ∨ n = 134 ∨ n = 135) → ¬ (n = 136 ∧ 5 ≤ k ∧ k < 5 + r 0 4) → τ n k = S n k) ∧ (∀ p, p < r 0 4 → τ 133 p = nI (r 2 p) ∧ τ 134 p = nI (r 3 p) ∧ τ 135 p = fI (if r 5 p < r 0 4 then r 5 p + 1 else 0) ∧ τ 136 (5 + p) = nI (r 4 p)) := by
  intro d
  induction d with
  | zero =>
    intro i fu σ h1 h2 h3 h4
    cases fu with
    | zero => omega
    | succ fu =>
      have hi : i = r 0 4 := by omega
      have e : σ 132 3 = nI (r 0 4) := by rw [h3 _ _ (by omega) (by omega)]; exact e3
      refine ⟨σ, ?_, by rw [← hi]; exact h3, by rw [← hi]; exact fun p hp => by have := h4 p hp; rw [← hi] at this; exact this⟩
      rw [fX12_takeRead_96_s]
      unfold fX12_takeRead_96b
      rw [e]
      simp (disch := omega) only [lt_eq, bi_some, bv_some, ↓lim1, pk_m1f, fI_add1, li0, li1, li2, li3, li4, li5, li6, li7, li8, li9, li10, li12, li15, li16, li19, li20, li26, li30, li31, li32, li48, li57, li59, li60, li64, li99, li100, li128, li240, li255, li480, li999, li1000, li9000, li9999, liF, nI_add, sb_nI, pk_mul, dv_nI, cl_nI, inbT, le_nI, lt_nI, eq_nI, fI_le, fI_eq, st_ne, st_at, iT, iF, Nat.zero_add, Nat.add_zero, not_true_eq_false, not_false_eq_true, true_and, and_true, false_and, and_false, or_true, true_or, or_false, false_or, Nat.reduceEqDiff, Nat.reduceLeDiff, Nat.reduceLT, Nat.reduceAdd, Nat.reduceSub, Nat.reduceMul, Nat.reduceDiv, Nat.reduceMod, ↓reduceIte, show r 0 4 ≤ i by omega]
  | succ d ih =>
    intro i fu σ h1 h2 h3 h4
    cases fu with
    | zero => omega
    | succ fu =>
      have hi : i < r 0 4 := by omega
      have e : σ 132 3 = nI (r 0 4) := by rw [h3 _ _ (by omega) (by omega)]; exact e3
      have g := er i hi
      have g1 : σ 139 i = nI (r 2 i) := by rw [h3 _ _ (by omega) (by omega)]; exact g.1
      have g2 : σ 140 i = nI (r 3 i) := by rw [h3 _ _ (by omega) (by omega)]; exact g.2.1
      have g3 : σ 141 i = nI (r 4 i) := by rw [h3 _ _ (by omega) (by omega)]; exact g.2.2.1
      have g4 : σ 142 i = nI (r 5 i) := by rw [h3 _ _ (by omega) (by omega)]; exact g.2.2.2
      have h9 := h5 i hi
      have key : ∀ f, fX12_takeRead_156 (fX12_takeRead_96 fu (fun σ_27 => some σ_27)) (fun σ_27 => some σ_27) (st (st σ 133 i (nI (r 2 i))) 134 i (nI (r 3 i))) (nI i) (fI f) (nI i) = fX12_takeRead_96 fu (fun σ_27 => some σ_27) (st (st (st (st σ 133 i (nI (r 2 i))) 134 i (nI (r 3 i))) 135 i (fI f)) 136 (5 + i) (nI (r 4 i))) (nI (i + 1)) := by
        intro f
        unfold fX12_takeRead_156
        simp (disch := omega) only [lt_eq, bi_some, bv_some, ↓lim1, pk_m1f, fI_add1, li0, li1, li2, li3, li4, li5, li6, li7, li8, li9, li10, li12, li15, li16, li19, li20, li26, li30, li31, li32, li48, li57, li59, li60, li64, li99, li100, li128, li240, li255, li480, li999, li1000, li9000, li9999, liF, nI_add, sb_nI, pk_mul, dv_nI, cl_nI, inbT, le_nI, lt_nI, eq_nI, fI_le, fI_eq, st_ne, st_at, iT, iF, Nat.zero_add, Nat.add_zero, not_true_eq_false, not_false_eq_true, true_and, and_true, false_and, and_false, or_true, true_or, or_false, false_or, Nat.reduceEqDiff, Nat.reduceLeDiff, Nat.reduceLT, Nat.reduceAdd, Nat.reduceSub, Nat.reduceMul, Nat.reduceDiv, Nat.reduceMod, ↓reduceIte, g3]
      have nxt := fun (f : Nat) (hf : (if r 5 i < r 0 4 then r 5 i + 1 else 0) = f) => ih (i + 1) fu (st (st (st (st σ 133 i (nI (r 2 i))) 134 i (nI (r 3 i))) 135 i (fI f)) 136 (5 + i) (nI (r 4 i))) (by omega) (by omega) (fun n k hn hk => by
        rw [st_eq, if_neg (by omega), st_ne (by omega), st_ne (by omega), st_ne (by omega)]
        exact h3 n k hn (by omega)) (fun p hp => by
        by_cases y : p = i
        · subst y
          refine ⟨?_, ?_, ?_, ?_⟩
          · rw [st_ne (by omega), st_ne (by omega), st_ne (by omega), st_at, if_pos rfl]
          · rw [st_ne (by omega), st_ne (by omega), st_at, if_pos rfl]
          · rw [st_ne (by omega), st_at, if_pos rfl, hf]
          · rw [st_at, if_pos rfl]
        · have := h4 p (by omega)
          refine ⟨?_, ?_, ?_, ?_⟩
          · rw [st_ne (by omega), st_ne (by omega), st_ne (by omega), st_at, if_neg y]; exact this.1
          · rw [st_ne (by omega), st_ne (by omega), st_at, if_neg y, st_ne (by omega)]; exact this.2.1
          · rw [st_ne (by omega), st_at, if_neg y, st_ne (by omega), st_ne (by omega)]; exact this.2.2.1
          · rw [st_at, if_neg (by omega), st_ne (by omega), st_ne (by omega), st_ne (by omega)]; exact this.2.2.2)
      rw [fX12_takeRead_96_s]
      unfold fX12_takeRead_96b
      rw [e]
      simp (disch := omega) only [lt_eq, bi_some, bv_some, ↓lim1, pk_m1f, fI_add1, li0, li1, li2, li3, li4, li5, li6, li7, li8, li9, li10, li12, li15, li16, li19, li20, li26, li30, li31, li32, li48, li57, li59, li60, li64, li99, li100, li128, li240, li255, li480, li999, li1000, li9000, li9999, liF, nI_add, sb_nI, pk_mul, dv_nI, cl_nI, inbT, le_nI, lt_nI, eq_nI, fI_le, fI_eq, st_ne, st_at, iT, iF, Nat.zero_add, Nat.add_zero, not_true_eq_false, not_false_eq_true, true_and, and_true, false_and, and_false, or_true, true_or, or_false, false_or, Nat.reduceEqDiff, Nat.reduceLeDiff, Nat.reduceLT, Nat.reduceAdd, Nat.reduceSub, Nat.reduceMul, Nat.reduceDiv, Nat.reduceMod, ↓reduceIte, show ¬ r 0 4 ≤ i by omega, g1, g2, e, g4]
      by_cases q : r 5 i < r 0 4
      · simp (disch := omega) only [lt_eq, bi_some, bv_some, ↓lim1, pk_m1f, fI_add1, li0, li1, li2, li3, li4, li5, li6, li7, li8, li9, li10, li12, li15, li16, li19, li20, li26, li30, li31, li32, li48, li57, li59, li60, li64, li99, li100, li128, li240, li255, li480, li999, li1000, li9000, li9999, liF, nI_add, sb_nI, pk_mul, dv_nI, cl_nI, inbT, le_nI, lt_nI, eq_nI, fI_le, fI_eq, st_ne, st_at, iT, iF, Nat.zero_add, Nat.add_zero, not_true_eq_false, not_false_eq_true, true_and, and_true, false_and, and_false, or_true, true_or, or_false, false_or, Nat.reduceEqDiff, Nat.reduceLeDiff, Nat.reduceLT, Nat.reduceAdd, Nat.reduceSub, Nat.reduceMul, Nat.reduceDiv, Nat.reduceMod, ↓reduceIte, show ¬ r 0 4 ≤ r 5 i by omega]
        rw [show nI (r 5 i) = fI (r 5 i + 1) from (fI_s _).symm, key]
        exact nxt _ (by rw [if_pos q])
      · simp (disch := omega) only [lt_eq, bi_some, bv_some, ↓lim1, pk_m1f, fI_add1, li0, li1, li2, li3, li4, li5, li6, li7, li8, li9, li10, li12, li15, li16, li19, li20, li26, li30, li31, li32, li48, li57, li59, li60, li64, li99, li100, li128, li240, li255, li480, li999, li1000, li9000, li9999, liF, nI_add, sb_nI, pk_mul, dv_nI, cl_nI, inbT, le_nI, lt_nI, eq_nI, fI_le, fI_eq, st_ne, st_at, iT, iF, Nat.zero_add, Nat.add_zero, not_true_eq_false, not_false_eq_true, true_and, and_true, false_and, and_false, or_true, true_or, or_false, false_or, Nat.reduceEqDiff, Nat.reduceLeDiff, Nat.reduceLT, Nat.reduceAdd, Nat.reduceSub, Nat.reduceMul, Nat.reduceDiv, Nat.reduceMod, ↓reduceIte, show r 0 4 ≤ r 5 i by omega]
        rw [key]
        exact nxt _ (by rw [if_neg q])
theorem mRead {r : Ab} {N : Nat} (hr : Rb N r) {σ : Sg} (e14 : σ 132 14 = nI (r 0 1)) (e15 : σ 132 15 = nI (r 0 2)) (e16 : σ 132 16 = nI (r 0 3)) (e17 : σ 132 17 = nI (r 0 4)) (eb : ∀ v, v < r 0 3 → σ 138 v = nI (r 1 v)) (er : ∀ p, p < r 0 4 → σ 139 p = nI (r 2 p) ∧ σ 140 p = nI (r 3 p) ∧ σ 141 p = nI (r 4 p) ∧ σ 142 p = nI (r 5 p)) : ∃ τ, fX12_takeRead σ = some τ ∧ (τ 132 0 = nI (r 0 1) ∧ τ 132 1 = nI (r 0 2) ∧ τ 132 2 = nI (r 0 3) ∧ τ 132 3 = nI (r 0 4)) ∧ (∀ p, p < r 0 4 → τ 133 p = nI (r 2 p) ∧ τ 134 p = nI (r 3 p) ∧ τ 135 p = fI (if r 5 p < r 0 4 then r 5 p + 1 else 0)) ∧ (∀ k, k < 30 → τ 136 k = nI (w0 r k)) ∧ ∀ n k, ¬ (n = 133 ∨ n = 134 ∨ n = 135 ∨ n = 136) → ¬ (n = 132 ∧ k < 4) → τ n k = σ n k := by
  obtain ⟨b1, b2, b3, b4, b5, b6⟩ := hr.1
  unfold fX12_takeRead
  rw [e14, lt_eq, st_eq, if_neg (by omega), e15, lt_eq, st_eq, if_neg (by omega), st_eq, if_neg (by omega), e16, lt_eq, st_eq, if_neg (by omega), st_eq, if_neg (by omega), st_eq, if_neg (by omega), e17, lt_eq]
  generalize hS : st (st (st (st σ 132 0 (nI (r 0 1))) 132 1 (nI (r 0 2))) 132 2 (nI (r 0 3))) 132 3 (nI (r 0 4)) = S
  have s0 : S 132 0 = nI (r 0 1) := by rw [← hS, st_eq, if_neg (by omega), st_eq, if_neg (by omega), st_eq, if_neg (by omega), st_at, if_pos rfl]
  have s1 : S 132 1 = nI (r 0 2) := by rw [← hS, st_eq, if_neg (by omega), st_eq, if_neg (by omega), st_at, if_pos rfl]
  have s2 : S 132 2 = nI (r 0 3) := by rw [← hS, st_eq, if_neg (by omega), st_at, if_pos rfl]
  have s3 : S 132 3 = nI (r 0 4) := by rw [← hS, st_at, if_pos rfl]
  have so : ∀ n k, ¬ (n = 132 ∧ k < 4) → S n k = σ n k := fun n k hn => by rw [← hS, st_eq, if_neg (by omega), st_eq, if_neg (by omega), st_eq, if_neg (by omega), st_eq, if_neg (by omega)]
  have l34 := (loop0 (fun m i (_ : Unit) => fX12_takeRead_34 m (fun σ_8 => (if inb 0 60 then lt (st σ_8 136 (0 : Int32).toNatClampNeg (σ_8 132 0)) (fun σ_9 => fX12_takeRead_65 FU (fun σ_14 => fX12_takeRead_96 FU (fun σ_27 => some σ_27) σ_14 0) σ_9 0) else none)) (cpr S 136 0 i (fun _ => nI 0)) (nI i)) 30 (by omega) (fun _ => fX12_takeRead_65 FU (fun σ_14 => fX12_takeRead_96 FU (fun σ_27 => some σ_27) σ_14 0) (st (cpr S 136 0 30 (fun _ => nI 0)) 136 0 (nI (r 0 1))) (nI 0)) (fun _ _ => True) (fun _ x => x) ?_ ?_ (fun _ _ _ _ => trivial) () trivial).1
  · simp only [cpr_0] at l34
    refine (fun (key : ∃ τ, fX12_takeRead_65 FU (fun σ_14 => fX12_takeRead_96 FU (fun σ_27 => some σ_27) σ_14 0) (st (cpr S 136 0 30 (fun _ => nI 0)) 136 0 (nI (r 0 1))) (nI 0) = some τ ∧ _) => (by obtain ⟨τ, e, k⟩ := key; exact ⟨τ, Eq.trans l34 e, k⟩)) ?_
    generalize hU : st (cpr S 136 0 30 (fun _ => nI 0)) 136 0 (nI (r 0 1)) = U
    have u2 : U 132 2 = nI (r 0 3) := by rw [← hU, st_ne (by omega), cpr_ne _ _ _ _ (by omega)]; exact s2
    have uo : ∀ n k, n ≠ 136 → U n k = S n k := fun n k hn => by rw [← hU, st_ne hn, cpr_ne _ _ _ _ hn]
    have uw : ∀ k, k < 30 → U 136 k = nI (if k = 0 then r 0 1 else 0) := fun k hk => by
      rw [← hU, st_at]
      by_cases y : k = 0
      · rw [if_pos y, if_pos y]
      · have := cpr_in S 136 (B := 0) (i := 30) (fun _ => nI 0) hk
        rw [Nat.zero_add] at this
        rw [if_neg y, if_neg y, this]
    have l65 := (loop0 (fun m i (_ : Unit) => fX12_takeRead_65 m (fun σ_14 => fX12_takeRead_96 FU (fun σ_27 => some σ_27) σ_14 0) (cpr U 136 26 i (fun v => nI (r 1 v))) (nI i)) (r 0 3) (by omega) (fun _ => fX12_takeRead_96 FU (fun σ_27 => some σ_27) (cpr U 136 26 (r 0 3) (fun v => nI (r 1 v))) (nI 0)) (fun _ _ => True) (fun _ x => x) ?_ ?_ (fun _ _ _ _ => trivial) () trivial).1
    · simp only [cpr_0] at l65
      rw [l65]
      generalize hX : cpr U 136 26 (r 0 3) (fun v => nI (r 1 v)) = X
      have xo : ∀ n k, n ≠ 136 → X n k = S n k := fun n k hn => by rw [← hX, cpr_ne _ _ _ _ hn]; exact uo n k hn
      obtain ⟨τ, e, t1, t2⟩ := mRead96 b5 (fun p hp => (hr.2.2 p hp).2.2.2) (S := X) (by rw [xo _ _ (by omega)]; exact s3) (fun p hp => by
        rw [xo _ _ (by omega), xo _ _ (by omega), xo _ _ (by omega), xo _ _ (by omega), so _ _ (by omega), so _ _ (by omega), so _ _ (by omega), so _ _ (by omega)]
        exact er p hp) (r 0 4) 0 FU X (by omega) (by have := FU_ge; omega) (fun n k _ _ => rfl) (fun p hp => by omega)
      refine ⟨τ, e, ⟨?_, ?_, ?_, ?_⟩, fun p hp => ⟨(t2 p hp).1, (t2 p hp).2.1, (t2 p hp).2.2.1⟩, fun k hk => ?_, fun n k hn hk => ?_⟩
      · rw [t1 _ _ (by omega) (by omega), xo _ _ (by omega)]; exact s0
      · rw [t1 _ _ (by omega) (by omega), xo _ _ (by omega)]; exact s1
      · rw [t1 _ _ (by omega) (by omega), xo _ _ (by omega)]; exact s2
      · rw [t1 _ _ (by omega) (by omega), xo _ _ (by omega)]; exact s3
      · unfold w0
        by_cases y : 5 ≤ k ∧ k < 5 + r 0 4
        · have := (t2 (k - 5) (by omega)).2.2.2
          rw [show 5 + (k - 5) = k by omega] at this
          rw [if_neg (by omega), if_pos y, this]
        · rw [t1 _ _ (by omega) (by omega), ← hX]
          by_cases z : 26 ≤ k ∧ k < 26 + r 0 3
          · have := cpr_in U 136 (B := 26) (i := r 0 3) (fun v => nI (r 1 v)) (k := k - 26) (by omega)
            rw [show 26 + (k - 26) = k by omega] at this
            rw [if_neg (by omega), if_neg y, if_pos z, this]
          · rw [cpr_out _ _ _ (by omega), uw k hk, if_neg y, if_neg z]
      · rw [t1 _ _ (by omega) (by omega), xo _ _ (by omega), so _ _ hk]
    · intro m _ _
      simp only [fX12_takeRead_65_s]
      unfold fX12_takeRead_65b
      have e : cpr U 136 26 (r 0 3) (fun v => nI (r 1 v)) 132 2 = nI (r 0 3) := by rw [cpr_ne _ _ _ _ (by omega)]; exact u2
      simp (disch := omega) only [lt_eq, bi_some, bv_some, ↓lim1, pk_m1f, fI_add1, li0, li1, li2, li3, li4, li5, li6, li7, li8, li9, li10, li12, li15, li16, li19, li20, li26, li30, li31, li32, li48, li57, li59, li60, li64, li99, li100, li128, li240, li255, li480, li999, li1000, li9000, li9999, liF, nI_add, sb_nI, pk_mul, dv_nI, cl_nI, inbT, le_nI, lt_nI, eq_nI, fI_le, fI_eq, st_ne, st_at, iT, iF, Nat.zero_add, Nat.add_zero, not_true_eq_false, not_false_eq_true, true_and, and_true, false_and, and_false, or_true, true_or, or_false, false_or, Nat.reduceEqDiff, Nat.reduceLeDiff, Nat.reduceLT, Nat.reduceAdd, Nat.reduceSub, Nat.reduceMul, Nat.reduceDiv, Nat.reduceMod, ↓reduceIte, e, Nat.le_refl]
    · intro m i _ hi _
      simp only [fX12_takeRead_65_s]
      unfold fX12_takeRead_65b
      have e : cpr U 136 26 i (fun v => nI (r 1 v)) 132 2 = nI (r 0 3) := by rw [cpr_ne _ _ _ _ (by omega)]; exact u2
      have e2 : cpr U 136 26 i (fun v => nI (r 1 v)) 138 i = nI (r 1 i) := by rw [cpr_ne _ _ _ _ (by omega), uo _ _ (by omega), so _ _ (by omega)]; exact eb i hi
      have s := cpr_st U 136 26 i (fun v => nI (r 1 v))
      simp (disch := omega) only [lt_eq, bi_some, bv_some, ↓lim1, pk_m1f, fI_add1, li0, li1, li2, li3, li4, li5, li6, li7, li8, li9, li10, li12, li15, li16, li19, li20, li26, li30, li31, li32, li48, li57, li59, li60, li64, li99, li100, li128, li240, li255, li480, li999, li1000, li9000, li9999, liF, nI_add, sb_nI, pk_mul, dv_nI, cl_nI, inbT, le_nI, lt_nI, eq_nI, fI_le, fI_eq, st_ne, st_at, iT, iF, Nat.zero_add, Nat.add_zero, not_true_eq_false, not_false_eq_true, true_and, and_true, false_and, and_false, or_true, true_or, or_false, false_or, Nat.reduceEqDiff, Nat.reduceLeDiff, Nat.reduceLT, Nat.reduceAdd, Nat.reduceSub, Nat.reduceMul, Nat.reduceDiv, Nat.reduceMod, ↓reduceIte, e, show ¬ r 0 3 ≤ i by omega, e2, s]
  · intro m _ _
    simp only [fX12_takeRead_34_s]
    unfold fX12_takeRead_34b
    have e : cpr S 136 0 30 (fun _ => nI 0) 132 0 = nI (r 0 1) := by rw [cpr_ne _ _ _ _ (by omega)]; exact s0
    simp (disch := omega) only [lt_eq, bi_some, bv_some, ↓lim1, pk_m1f, fI_add1, li0, li1, li2, li3, li4, li5, li6, li7, li8, li9, li10, li12, li15, li16, li19, li20, li26, li30, li31, li32, li48, li57, li59, li60, li64, li99, li100, li128, li240, li255, li480, li999, li1000, li9000, li9999, liF, nI_add, sb_nI, pk_mul, dv_nI, cl_nI, inbT, le_nI, lt_nI, eq_nI, fI_le, fI_eq, st_ne, st_at, iT, iF, Nat.zero_add, Nat.add_zero, not_true_eq_false, not_false_eq_true, true_and, and_true, false_and, and_false, or_true, true_or, or_false, false_or, Nat.reduceEqDiff, Nat.reduceLeDiff, Nat.reduceLT, Nat.reduceAdd, Nat.reduceSub, Nat.reduceMul, Nat.reduceDiv, Nat.reduceMod, ↓reduceIte, Nat.le_refl, e]
  · intro m i _ hi _
    simp only [fX12_takeRead_34_s]
    unfold fX12_takeRead_34b
    have s := cpr_st S 136 0 i (fun _ => nI 0)
    rw [Nat.zero_add] at s
    simp (disch := omega) only [lt_eq, bi_some, bv_some, ↓lim1, pk_m1f, fI_add1, li0, li1, li2, li3, li4, li5, li6, li7, li8, li9, li10, li12, li15, li16, li19, li20, li26, li30, li31, li32, li48, li57, li59, li60, li64, li99, li100, li128, li240, li255, li480, li999, li1000, li9000, li9999, liF, nI_add, sb_nI, pk_mul, dv_nI, cl_nI, inbT, le_nI, lt_nI, eq_nI, fI_le, fI_eq, st_ne, st_at, iT, iF, Nat.zero_add, Nat.add_zero, not_true_eq_false, not_false_eq_true, true_and, and_true, false_and, and_false, or_true, true_or, or_false, false_or, Nat.reduceEqDiff, Nat.reduceLeDiff, Nat.reduceLT, Nat.reduceAdd, Nat.reduceSub, Nat.reduceMul, Nat.reduceDiv, Nat.reduceMod, ↓reduceIte, show ¬ 30 ≤ i by omega, s]
theorem M_hills {a : Ab} {σ : Sg} (h : RelM a σ) (g : Gb a) : OkM σ (fX12_hills σ) (sp_hills a) := by
  have hl := gb_len g
  unfold fX12_hills sp_hills
  simp only [lt_eq, ↓lim1, li0]
  generalize hS : st (st (st (st (st (st σ 132 11 (fI 0)) 132 12 (nI 0)) 132 14 (nI 0)) 132 15 (nI 0)) 132 16 (nI 0)) 132 17 (nI 0) = S
  have so : ∀ n k, (n = 132 → k ≠ 11 ∧ k ≠ 12 ∧ k ≠ 14 ∧ k ≠ 15 ∧ k ≠ 16 ∧ k ≠ 17) → S n k = σ n k := fun n k hn => by
    rw [← hS, st_eq, if_neg (by omega), st_eq, if_neg (by omega), st_eq, if_neg (by omega), st_eq, if_neg (by omega), st_eq, if_neg (by omega), st_eq, if_neg (by omega)]
  have s11 : S 132 11 = fI 0 := by rw [← hS, st_eq, if_neg (by omega), st_eq, if_neg (by omega), st_eq, if_neg (by omega), st_eq, if_neg (by omega), st_eq, if_neg (by omega), st_at, if_pos rfl]
  have sz : ∀ k, k = 12 ∨ k = 14 ∨ k = 15 ∨ k = 16 ∨ k = 17 → S 132 k = nI 0 := fun k hk => by
    rw [← hS]
    simp only [st_eq]
    rcases hk with rfl | rfl | rfl | rfl | rfl <;> simp
  have rd : RdM (a 6) (a 5 1) r0A S S := ⟨⟨sz 14 (by omega), sz 15 (by omega), sz 16 (by omega), sz 17 (by omega)⟩, (fun v hv => by cases hv), (fun p hp => by cases hp), fun _ _ _ _ => rfl⟩
  have tx : TxM (a 6) (a 5 1) (r0A 0 0) S := ⟨by rw [so _ _ (by omega)]; exact rm_len h, fun k hk => by rw [so _ _ (by omega)]; exact rm_text h hk, sz 12 (by omega), s11⟩
  have rb : Rb (a 5 1) r0A := ⟨⟨Nat.zero_le _, Nat.zero_le _, Nat.zero_le _, Nat.zero_le _, Nat.zero_le _, fun _ => ⟨rfl, rfl⟩⟩, (fun v hv => by cases hv), (fun p hp => by cases hp)⟩
  obtain ⟨τ, e, hc, k0, k1⟩ := M_text hl g.2.2.2.2.1 (fun σ_11 x1_11 => fX12_hills_51 σ_11 x1_11) 241 FU r0A S (by show a 5 1 < 0 + 241; omega) (by have := FU_ge; omega) rd rb tx
  rw [e]
  generalize rdl (a 6) (a 5 1) 241 r0A = Z at hc k0 k1 ⊢
  unfold fX12_hills_51
  by_cases q : Z.1 = 0
  · obtain ⟨⟨⟨d1, d2, d3, d4⟩, d5, d6, d7⟩, d8, d9⟩ := k0 q
    obtain ⟨υ, f, ⟨v1, v2, v3, v4⟩, f2, f3, f4⟩ := mRead d8 (σ := st τ 132 10 0) (by rw [st_at, if_neg (by omega)]; exact d1) (by rw [st_at, if_neg (by omega)]; exact d2) (by rw [st_at, if_neg (by omega)]; exact d3) (by rw [st_at, if_neg (by omega)]; exact d4) (fun v hv => by rw [st_ne (by omega)]; exact d5 v hv) (fun p hp => by
      rw [st_ne (by omega), st_ne (by omega), st_ne (by omega), st_ne (by omega)]; exact d6 p hp)
    rw [if_pos q, q, lt_eq, if_pos (by decide), f, bv_some, lt_eq, lt_eq, lt_eq, if_pos (show inb 0 2 by decide), lt_eq, if_pos (show inb 1 2 by decide), lt_eq]
    have c0 : (0 : Int32).toNatClampNeg = 0 := by decide
    have c1 : (1 : Int32).toNatClampNeg = 1 := by decide
    rw [c0, c1]
    generalize hW : st (st (st (st (st υ 132 28 0) 132 31 0) 132 25 0) 150 0 0) 150 1 0 = W
    have wo : ∀ n k, (n = 132 → k ≠ 28 ∧ k ≠ 31 ∧ k ≠ 25) → n ≠ 150 → W n k = υ n k := fun n k hn h9 => by
      rw [← hW, st_ne h9, st_ne h9, st_eq, if_neg (by omega), st_eq, if_neg (by omega), st_eq, if_neg (by omega)]
    have wt : ∀ n k, ¬ (n = 133 ∨ n = 134 ∨ n = 135 ∨ n = 136) → n ≠ 150 → (n = 132 → 4 ≤ k ∧ k ≠ 28 ∧ k ≠ 31 ∧ k ≠ 25 ∧ k ≠ 10) → W n k = τ n k := fun n k h1 h2 h3 => by
      rw [wo n k (by omega) h2, f4 n k h1 (by omega), st_eq, if_neg (by omega)]
    refine OkM.mk (τ := W) ?_ ⟨⟨?_, ?_, ?_, ?_⟩, fun p hp => ⟨?_, ?_, ?_⟩, fun k hk => ?_, ⟨?_, ?_, ?_, ?_, ?_, ?_⟩, fun k hk => ?_, fun i k hi hk => ?_, fun r hr => ?_, fun r hr => ?_, fun i hi => ?_⟩ (fun n hn => ?_)
    · rw [wo _ _ (by omega) (by omega), v4]
    · rw [wo _ _ (by omega) (by omega)]; exact v1
    · rw [wo _ _ (by omega) (by omega)]; exact v2
    · rw [wo _ _ (by omega) (by omega)]; exact v3
    · rw [wo _ _ (by omega) (by omega)]; exact v4
    · rw [wo _ _ (by omega) (by omega)]; exact (f2 p hp).1
    · rw [wo _ _ (by omega) (by omega)]; exact (f2 p hp).2.1
    · rw [wo _ _ (by omega) (by omega)]; exact (f2 p hp).2.2
    · rw [wo _ _ (by omega) (by omega)]; exact f3 k hk
    · rw [wt _ _ (by omega) (by omega) (by omega), d7 _ _ rfl (by omega), so _ _ (by omega)]; exact (rm_seed h : σ 132 8 = nI (a 5 0))
    · rw [wo _ _ (by omega) (by omega), f4 _ _ (by omega) (by omega), st_at, if_pos rfl]; rfl
    · rw [wt _ _ (by omega) (by omega) (by omega)]; exact d9
    · rw [← hW, st_ne (by omega), st_ne (by omega), st_at, if_pos rfl]; rfl
    · rw [← hW, st_ne (by omega), st_ne (by omega), st_eq, if_neg (by omega), st_eq, if_neg (by omega), st_at, if_pos rfl]; rfl
    · rw [← hW, st_ne (by omega), st_ne (by omega), st_eq, if_neg (by omega), st_at, if_pos rfl]; rfl
    · exact absurd hk (Nat.not_lt_zero _)
    · exact absurd hi (Nat.not_lt_zero _)
    · exact absurd hr (Nat.not_lt_zero _)
    · exact absurd hr (Nat.not_lt_zero _)
    · have e5 : newA a Z.2.2 5 (6 + i) = 0 := by
        show (if 6 + i = 0 then a 5 0 else 0) = 0
        rw [if_neg (by omega)]
      refine ⟨?_, fun h1 => ?_⟩
      · rw [e5, ← hW, st_at, st_at]
        rcases (show i = 0 ∨ i = 1 by omega) with rfl | rfl
        · rfl
        · rfl
      · rw [e5] at h1; cases h1
    · funext k
      rw [wt n k (by omega) (by omega) (by omega), d7 n k (by simp [scM]; omega) (by omega), so n k (by omega)]
  · obtain ⟨f1, f2⟩ := k1 (by omega)
    rw [if_neg q, lt_eq, if_neg (npos q hc).1]
    have wo : ∀ n k, scM n k = false → (n = 132 → k ≠ 11 ∧ k ≠ 10) → st τ 132 10 0 n k = σ n k := fun n k hs hn => by
      have := scM_131 hs
      rw [st_eq, if_neg (by omega), f2 n k hs (by omega), so n k (by omega)]
    have e5 : ∀ k, k ≠ 1 → k ≠ 2 → va_up a 5 (va_up (va_up (a 5) 1 0) 2 (Z.2.1 + 1)) 5 k = a 5 k := fun k h1 h2 => by
      show va_up (va_up (a 5) 1 0) 2 (Z.2.1 + 1) k = a 5 k
      rw [va_up_ne _ _ h2, va_up_ne _ _ h1]
    have eo : ∀ n, n ≠ 5 → va_up a 5 (va_up (va_up (a 5) 1 0) 2 (Z.2.1 + 1)) n = a n := fun n hn => va_up_ne _ _ hn
    obtain ⟨r1, r2, r3, r4, r5, r6, r7, r8, r9⟩ := h
    refine OkM.mk rfl ⟨⟨?_, ?_, ?_, ?_⟩, fun p hp => ⟨?_, ?_, ?_⟩, fun k hk => ?_, ⟨?_, ?_, ?_, ?_, ?_, ?_⟩, fun k hk => ?_, fun i k hi hk => ?_, fun r hr => ⟨?_, fun v hv => ?_⟩, fun r hr => ⟨?_, ?_⟩, fun i hi => ⟨?_, fun h1 k hk => ?_⟩⟩ (fun n hn => ?_)
    · rw [wo _ _ rfl (by omega)]; exact r1.1
    · rw [wo _ _ rfl (by omega)]; exact r1.2.1
    · rw [wo _ _ rfl (by omega)]; exact r1.2.2.1
    · rw [wo _ _ rfl (by omega)]; exact r1.2.2.2
    · rw [wo _ _ (by simp [scM]) (by omega)]; exact (r2 p hp).1
    · rw [wo _ _ (by simp [scM]) (by omega)]; exact (r2 p hp).2.1
    · rw [wo _ _ (by simp [scM]) (by omega)]; exact (r2 p hp).2.2
    · rw [wo _ _ (by simp [scM]; omega) (by omega)]; exact r3 k hk
    · rw [wo _ _ rfl (by omega)]; exact r4.1
    · rw [st_at, if_pos rfl]; rfl
    · rw [st_at, if_neg (by omega), f1]
      exact (fI_s _).symm
    · rw [wo _ _ rfl (by omega)]; exact r4.2.2.2.1
    · rw [wo _ _ rfl (by omega)]; exact r4.2.2.2.2.1
    · rw [wo _ _ rfl (by omega)]; exact r4.2.2.2.2.2
    · exact absurd hk (Nat.not_lt_zero _)
    · rw [eo (20 + i) (by omega), wo _ _ (by simp [scM]) (by omega)]; exact r6 i k hi hk
    · rw [wo _ _ (by simp [scM]) (by omega)]; exact (r7 r hr).1
    · rw [wo _ _ (by simp [scM]) (by omega)]; exact (r7 r hr).2 v hv
    · rw [wo _ _ (by simp [scM]) (by omega)]; exact (r8 r hr).1
    · rw [wo _ _ (by simp [scM]) (by omega)]; exact (r8 r hr).2
    · rw [e5 (6 + i) (by omega) (by omega), wo _ _ (by simp [scM]) (by omega)]; exact (r9 i hi).1
    · rw [e5 (6 + i) (by omega) (by omega)] at h1
      rw [eo (40 + i) (by omega), wo _ _ (by simp [scM]) (by omega)]; exact (r9 i hi).2 h1 k hk
    · funext k
      rw [wo n k (by simp [scM]; omega) (by omega)]
