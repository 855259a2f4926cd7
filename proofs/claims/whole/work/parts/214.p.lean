/-! the reference: remembered, undone -/
def remA (a : Ab) : Ab := fun n => if n = 5 then va_up (a 5) 3 (if a 5 3 = 16 then 16 else a 5 3 + 1) else if 20 ≤ n ∧ n < 36 then (if a 5 3 = 16 then (if n = 35 then a 4 else a (n + 1)) else if n = 20 + a 5 3 then a 4 else a n) else a n
theorem gb_undos {a : Ab} (g : Gb a) : a 5 3 ≤ 16 := g.2.2.2.1.2.2.2.1
theorem remA_u (a : Ab) : remA a 5 3 = if a 5 3 = 16 then 16 else a 5 3 + 1 := va_up_self (a 5) 3 _
theorem remA_past (a : Ab) {i : Nat} (hi : i < 16) : remA a (20 + i) = if a 5 3 = 16 then (if i = 15 then a 4 else a (20 + (i + 1))) else if i = a 5 3 then a 4 else a (20 + i) := by
  unfold remA
  rw [if_neg (by omega), if_pos (by omega)]
  by_cases q : a 5 3 = 16
  · rw [if_pos q, if_pos q]
    by_cases z : i = 15
    · rw [if_pos (by omega), if_pos z]
    · rw [if_neg (by omega), if_neg z]; rfl
  · rw [if_neg q, if_neg q]
    by_cases z : i = a 5 3
    · rw [if_pos (by omega), if_pos z]
    · rw [if_neg (by omega), if_neg z]
theorem remA_out (a : Ab) {n : Nat} (h : n ≠ 5) (h2 : n < 20 ∨ 36 ≤ n) : remA a n = a n := by
  unfold remA
  rw [if_neg h, if_neg (by omega)]
theorem gb_rem {a : Ab} (g : Gb a) : Gb (remA a) := by
  have hu := gb_undos g
  have g0 := g
  obtain ⟨g1, g2, g3, g4, g5, g6, g7, g8, g9⟩ := g
  have e0 : remA a 0 = a 0 := remA_out a (by omega) (by omega)
  have e5 : ∀ k, k ≠ 3 → remA a 5 k = a 5 k := fun k hk => va_up_ne _ _ hk
  refine ⟨g1, g2, g3, ⟨g4.1, g4.2.1, g4.2.2.1, ?_, g4.2.2.2.2.1, g4.2.2.2.2.2⟩, g5, fun i hi => ?_, g7, g8, fun i hi => ?_⟩
  · rw [remA_u]; split <;> omega
  · rw [remA_u] at hi
    have hi16 : i < 16 := by split at hi <;> omega
    rw [e0, remA_past a hi16]
    by_cases q : a 5 3 = 16
    · rw [if_pos q]
      by_cases z : i = 15
      · rw [if_pos z]; exact g3
      · rw [if_neg z]; exact g6 (i + 1) (by omega)
    · rw [if_neg q]
      rw [if_neg q] at hi
      by_cases z : i = a 5 3
      · rw [if_pos z]; exact g3
      · rw [if_neg z]; exact g6 i (by omega)
  · have e40 : remA a (40 + i) = a (40 + i) := remA_out a (by omega) (by omega)
    rw [e0, e40, e5 (6 + i) (by omega)]
    exact g9 i hi
theorem mRem50 {σ : Sg} {u : Nat} (hu : σ 132 25 = nI u) (h15 : u ≤ 15) : fX12_remember_50 σ = some (st (cpr σ 143 (30 * u) 30 (σ 136)) 132 25 (nI (u + 1))) := by
  unfold fX12_remember_50
  rw [li0]
  have key := (loop0 (fun n i (_ : Unit) => fX12_remember_52 n (fun σ_6 => lt (st σ_6 132 25 ((σ_6 132 25) + 1)) (fun σ_7 => some σ_7)) (cpr σ 143 (30 * u) i (σ 136)) (nI i)) 30 (by omega) (fun _ => some (st (cpr σ 143 (30 * u) 30 (σ 136)) 132 25 (nI (u + 1)))) (fun _ _ => True) (fun _ x => x) ?_ ?_ (fun _ _ _ _ => trivial) () trivial).1
  · simp only [cpr_0] at key
    exact key
  · intro n _ _
    simp only [fX12_remember_52_s]
    unfold fX12_remember_52b
    have e : cpr σ 143 (30 * u) 30 (σ 136) 132 25 = nI u := by rw [cpr_ne _ _ _ _ (by omega)]; exact hu
    simp (disch := omega) only [lt_eq, bi_some, bv_some, ↓lim1, pk_m1f, fI_add1, li0, li1, li2, li3, li4, li5, li6, li7, li8, li9, li10, li12, li15, li16, li19, li20, li26, li30, li31, li32, li48, li57, li59, li60, li64, li99, li100, li128, li240, li255, li480, li999, li1000, li9000, li9999, liF, nI_add, sb_nI, pk_mul, dv_nI, cl_nI, inbT, le_nI, lt_nI, eq_nI, fI_le, fI_eq, st_ne, st_at, iT, iF, Nat.zero_add, Nat.add_zero, not_true_eq_false, not_false_eq_true, true_and, and_true, false_and, and_false, or_true, true_or, or_false, false_or, Nat.reduceEqDiff, Nat.reduceLeDiff, Nat.reduceLT, Nat.reduceAdd, Nat.reduceSub, Nat.reduceMul, Nat.reduceDiv, Nat.reduceMod, ↓reduceIte, Nat.le_refl, e]
  · intro n i _ hi _
    simp only [fX12_remember_52_s]
    unfold fX12_remember_52b
    have e : cpr σ 143 (30 * u) i (σ 136) 132 25 = nI u := by rw [cpr_ne _ _ _ _ (by omega)]; exact hu
    have e2 : cpr σ 143 (30 * u) i (σ 136) 136 i = σ 136 i := by rw [cpr_ne _ _ _ _ (by omega)]
    simp (disch := omega) only [lt_eq, bi_some, bv_some, ↓lim1, pk_m1f, fI_add1, li0, li1, li2, li3, li4, li5, li6, li7, li8, li9, li10, li12, li15, li16, li19, li20, li26, li30, li31, li32, li48, li57, li59, li60, li64, li99, li100, li128, li240, li255, li480, li999, li1000, li9000, li9999, liF, nI_add, sb_nI, pk_mul, dv_nI, cl_nI, inbT, le_nI, lt_nI, eq_nI, fI_le, fI_eq, st_ne, st_at, iT, iF, Nat.zero_add, Nat.add_zero, not_true_eq_false, not_false_eq_true, true_and, and_true, false_and, and_false, or_true, true_or, or_false, false_or, Nat.reduceEqDiff, Nat.reduceLeDiff, Nat.reduceLT, Nat.reduceAdd, Nat.reduceSub, Nat.reduceMul, Nat.reduceDiv, Nat.reduceMod, ↓reduceIte, show ¬ 30 ≤ i by omega, e, e2, cpr_st]
theorem mRem12 {σ : Sg} (kx : Sg → Option Sg) : fX12_remember_12 FU kx σ 30 = kx (cpr σ 143 0 450 (fun k => σ 143 (30 + k))) := by
  have key := (loop0 (fun n i (_ : Unit) => fX12_remember_12 n kx (cpr σ 143 0 i (fun k => σ 143 (30 + k))) (nI (30 + i))) 450 (by omega) (fun _ => kx (cpr σ 143 0 450 (fun k => σ 143 (30 + k)))) (fun _ _ => True) (fun _ x => x) ?_ ?_ (fun _ _ _ _ => trivial) () trivial).1
  · simp only [cpr_0] at key
    exact key
  · intro n _ _
    simp only [fX12_remember_12_s]
    unfold fX12_remember_12b
    simp (disch := omega) only [lt_eq, bi_some, bv_some, ↓lim1, pk_m1f, fI_add1, li0, li1, li2, li3, li4, li5, li6, li7, li8, li9, li10, li12, li15, li16, li19, li20, li26, li30, li31, li32, li48, li57, li59, li60, li64, li99, li100, li128, li240, li255, li480, li999, li1000, li9000, li9999, liF, nI_add, sb_nI, pk_mul, dv_nI, cl_nI, inbT, le_nI, lt_nI, eq_nI, fI_le, fI_eq, st_ne, st_at, iT, iF, Nat.zero_add, Nat.add_zero, not_true_eq_false, not_false_eq_true, true_and, and_true, false_and, and_false, or_true, true_or, or_false, false_or, Nat.reduceEqDiff, Nat.reduceLeDiff, Nat.reduceLT, Nat.reduceAdd, Nat.reduceSub, Nat.reduceMul, Nat.reduceDiv, Nat.reduceMod, ↓reduceIte, Nat.le_refl]
  · intro n i _ hi _
    simp only [fX12_remember_12_s]
    unfold fX12_remember_12b
    have e : cpr σ 143 0 i (fun k => σ 143 (30 + k)) 143 (30 + i) = σ 143 (30 + i) := cpr_out _ _ _ (by omega)
    have s := cpr_st σ 143 0 i (fun k => σ 143 (30 + k))
    rw [Nat.zero_add] at s
    simp (disch := omega) only [lt_eq, bi_some, bv_some, ↓lim1, pk_m1f, fI_add1, li0, li1, li2, li3, li4, li5, li6, li7, li8, li9, li10, li12, li15, li16, li19, li20, li26, li30, li31, li32, li48, li57, li59, li60, li64, li99, li100, li128, li240, li255, li480, li999, li1000, li9000, li9999, liF, nI_add, sb_nI, pk_mul, dv_nI, cl_nI, inbT, le_nI, lt_nI, eq_nI, fI_le, fI_eq, st_ne, st_at, iT, iF, Nat.zero_add, Nat.add_zero, not_true_eq_false, not_false_eq_true, true_and, and_true, false_and, and_false, or_true, true_or, or_false, false_or, Nat.reduceEqDiff, Nat.reduceLeDiff, Nat.reduceLT, Nat.reduceAdd, Nat.reduceSub, Nat.reduceMul, Nat.reduceDiv, Nat.reduceMod, ↓reduceIte, show ¬ 480 ≤ 30 + i by omega, e, show 30 + i - 30 = i by omega, s, Nat.add_assoc]
theorem mRem {a : Ab} {σ : Sg} (h : RelM a σ) (g : Gb a) : ∃ τ, fX12_remember σ = some τ ∧ RelM (remA a) τ ∧ Fr σ τ := by
  have hu := gb_undos g
  have hU := rm_undos h
  unfold fX12_remember
  by_cases q : a 5 3 = 16
  · rw [hU, q, if_pos (show nI 16 = 16 by decide), mRem12]
    have e1 : cpr σ 143 0 450 (fun k => σ 143 (30 + k)) 132 25 = nI 16 := by rw [cpr_ne _ _ _ _ (by omega), hU, q]
    simp (disch := omega) only [lt_eq, bi_some, bv_some, ↓lim1, pk_m1f, fI_add1, li0, li1, li2, li3, li4, li5, li6, li7, li8, li9, li10, li12, li15, li16, li19, li20, li26, li30, li31, li32, li48, li57, li59, li60, li64, li99, li100, li128, li240, li255, li480, li999, li1000, li9000, li9999, liF, nI_add, sb_nI, pk_mul, dv_nI, cl_nI, inbT, le_nI, lt_nI, eq_nI, fI_le, fI_eq, st_ne, st_at, iT, iF, Nat.zero_add, Nat.add_zero, not_true_eq_false, not_false_eq_true, true_and, and_true, false_and, and_false, or_true, true_or, or_false, false_or, Nat.reduceEqDiff, Nat.reduceLeDiff, Nat.reduceLT, Nat.reduceAdd, Nat.reduceSub, Nat.reduceMul, Nat.reduceDiv, Nat.reduceMod, ↓reduceIte, e1]
    generalize hS : cpr σ 143 0 450 (fun k => σ 143 (30 + k)) = S at e1 ⊢
    rw [mRem50 (u := 15) (by rw [st_at, if_pos rfl]) (by omega)]
    refine ⟨_, rfl, relM_past h (fun n k hn => ?_) ?_ ?_ ?_ ?_ ?_ ?_ ?_ ?_ ?_ ?_ (fun k hk => va_up_ne _ _ hk) (fun i => ?_) ?_ (fun i k hi hk => ?_), fun n hn => ?_⟩
    · simp at hn
      rw [st_eq, if_neg (by omega), cpr_ne _ _ _ _ (by omega), st_eq, if_neg (by omega), ← hS, cpr_ne _ _ _ _ (by omega)]
    all_goals first | (exact remA_out a (by omega) (by omega)) | skip
    · rw [st_at, if_pos rfl, remA_u, if_pos q]
    · rw [remA_u, if_pos q] at hi
      rw [remA_past a hi, if_pos q, st_ne (by omega)]
      by_cases z : i = 15
      · rw [if_pos z, z, cpr_in _ _ _ hk, st_ne (by omega), ← hS, cpr_ne _ _ _ _ (by omega)]
        exact rm_w h hk
      · rw [if_neg z, cpr_out _ _ _ (by omega), st_ne (by omega), ← hS]
        have := cpr_in σ 143 (B := 0) (i := 450) (fun k => σ 143 (30 + k)) (k := 30 * i + k) (by omega)
        rw [Nat.zero_add] at this
        rw [this, show 30 + (30 * i + k) = 30 * (i + 1) + k by omega]
        exact rm_past h (by omega) hk
    · funext k
      rw [st_ne (by omega), cpr_ne _ _ _ _ (by omega), st_ne (by omega), ← hS, cpr_ne _ _ _ _ (by omega)]
  · rw [hU, if_neg (by rw [li16, eq_nI (by omega) (by omega)]; exact q), mRem50 hU (by omega)]
    refine ⟨_, rfl, relM_past h (fun n k hn => ?_) ?_ ?_ ?_ ?_ ?_ ?_ ?_ ?_ ?_ ?_ (fun k hk => va_up_ne _ _ hk) (fun i => ?_) ?_ (fun i k hi hk => ?_), fun n hn => ?_⟩
    · simp at hn
      rw [st_eq, if_neg (by omega), cpr_ne _ _ _ _ (by omega)]
    all_goals first | (exact remA_out a (by omega) (by omega)) | skip
    · rw [st_at, if_pos rfl, remA_u, if_neg q]
    · rw [remA_u, if_neg q] at hi
      rw [remA_past a (by omega), if_neg q, st_ne (by omega)]
      by_cases z : i = a 5 3
      · rw [if_pos z, z, cpr_in _ _ _ hk]
        exact rm_w h hk
      · rw [if_neg z, cpr_out _ _ _ (by omega)]
        exact rm_past h (by omega) hk
    · funext k
      rw [st_ne (by omega), cpr_ne _ _ _ _ (by omega)]
/-- undone -/
def undA (a : Ab) : Ab := va_up (va_up a 4 (a (20 + (a 5 3 - 1)))) 5 (va_up (a 5) 3 (a 5 3 - 1))
theorem mUndo {a : Ab} {σ : Sg} (h : RelM a σ) (g : Gb a) (h0 : 0 < a 5 3) : ∃ τ, fX12_undo σ = some (nI (a 5 3 - 1), τ) ∧ RelM (undA a) τ ∧ Fr σ τ := by
  have hu := gb_undos g
  have hU := rm_undos h
  unfold fX12_undo
  rw [hU]
  simp (disch := omega) only [lt_eq, bi_some, bv_some, ↓lim1, pk_m1f, fI_add1, li0, li1, li2, li3, li4, li5, li6, li7, li8, li9, li10, li12, li15, li16, li19, li20, li26, li30, li31, li32, li48, li57, li59, li60, li64, li99, li100, li128, li240, li255, li480, li999, li1000, li9000, li9999, liF, nI_add, sb_nI, pk_mul, dv_nI, cl_nI, inbT, le_nI, lt_nI, eq_nI, fI_le, fI_eq, st_ne, st_at, iT, iF, Nat.zero_add, Nat.add_zero, not_true_eq_false, not_false_eq_true, true_and, and_true, false_and, and_false, or_true, true_or, or_false, false_or, Nat.reduceEqDiff, Nat.reduceLeDiff, Nat.reduceLT, Nat.reduceAdd, Nat.reduceSub, Nat.reduceMul, Nat.reduceDiv, Nat.reduceMod, ↓reduceIte, show ¬ a 5 3 = 0 by omega]
  generalize hS : st σ 132 25 (nI (a 5 3 - 1)) = S
  have eU : S 132 25 = nI (a 5 3 - 1) := by rw [← hS, st_at, if_pos rfl]
  have e142 : S 143 = σ 143 := by rw [← hS, st_ne (by omega)]
  have key := (loop0 (fun n i (_ : Unit) => fX12_undo_22 n (fun σ_7 => some ((σ_7 132 25), σ_7)) (cpr S 136 0 i (fun k => σ 143 (30 * (a 5 3 - 1) + k))) (nI i)) 30 (by omega) (fun _ => some (nI (a 5 3 - 1), cpr S 136 0 30 (fun k => σ 143 (30 * (a 5 3 - 1) + k)))) (fun _ _ => True) (fun _ x => x) ?_ ?_ (fun _ _ _ _ => trivial) () trivial).1
  · simp only [cpr_0] at key
    rw [key]
    refine ⟨_, rfl, relM_undo h (fun n k hn => ?_) rfl rfl rfl rfl rfl rfl rfl rfl rfl (fun k hk => va_up_ne _ _ hk) (fun i => ?_) (fun i => ?_) ?_ ?_ (fun k hk => ?_), fun n hn => ?_⟩
    · simp at hn
      rw [cpr_ne _ _ _ _ hn.1, ← hS, st_eq, if_neg (by omega)]
    · unfold undA
      rw [va_up_ne _ _ (by omega), va_up_ne _ _ (by omega)]
    · unfold undA
      rw [va_up_ne _ _ (by omega), va_up_ne _ _ (by omega)]
    · have e : undA a 5 3 = a 5 3 - 1 := va_up_self (a 5) 3 _
      rw [e]; omega
    · have e : undA a 5 3 = a 5 3 - 1 := va_up_self (a 5) 3 _
      rw [cpr_ne _ _ _ _ (by omega), eU, e]
    · have := cpr_in S 136 (B := 0) (i := 30) (fun k => σ 143 (30 * (a 5 3 - 1) + k)) hk
      rw [Nat.zero_add] at this
      rw [this]
      show _ = nI (a (20 + (a 5 3 - 1)) k)
      exact rm_past h (by omega) hk
    · funext k
      rw [cpr_ne _ _ _ _ (by omega), ← hS, st_ne (by omega)]
  · intro n _ _
    simp only [fX12_undo_22_s]
    unfold fX12_undo_22b
    have e : cpr S 136 0 30 (fun k => σ 143 (30 * (a 5 3 - 1) + k)) 132 25 = nI (a 5 3 - 1) := by rw [cpr_ne _ _ _ _ (by omega)]; exact eU
    simp (disch := omega) only [lt_eq, bi_some, bv_some, ↓lim1, pk_m1f, fI_add1, li0, li1, li2, li3, li4, li5, li6, li7, li8, li9, li10, li12, li15, li16, li19, li20, li26, li30, li31, li32, li48, li57, li59, li60, li64, li99, li100, li128, li240, li255, li480, li999, li1000, li9000, li9999, liF, nI_add, sb_nI, pk_mul, dv_nI, cl_nI, inbT, le_nI, lt_nI, eq_nI, fI_le, fI_eq, st_ne, st_at, iT, iF, Nat.zero_add, Nat.add_zero, not_true_eq_false, not_false_eq_true, true_and, and_true, false_and, and_false, or_true, true_or, or_false, false_or, Nat.reduceEqDiff, Nat.reduceLeDiff, Nat.reduceLT, Nat.reduceAdd, Nat.reduceSub, Nat.reduceMul, Nat.reduceDiv, Nat.reduceMod, ↓reduceIte, Nat.le_refl, e]
  · intro n i _ hi _
    simp only [fX12_undo_22_s]
    unfold fX12_undo_22b
    have e : cpr S 136 0 i (fun k => σ 143 (30 * (a 5 3 - 1) + k)) 132 25 = nI (a 5 3 - 1) := by rw [cpr_ne _ _ _ _ (by omega)]; exact eU
    have e2 : cpr S 136 0 i (fun k => σ 143 (30 * (a 5 3 - 1) + k)) 143 (30 * (a 5 3 - 1) + i) = σ 143 (30 * (a 5 3 - 1) + i) := by rw [cpr_ne _ _ _ _ (by omega), e142]
    have s := cpr_st S 136 0 i (fun k => σ 143 (30 * (a 5 3 - 1) + k))
    rw [Nat.zero_add] at s
    simp (disch := omega) only [lt_eq, bi_some, bv_some, ↓lim1, pk_m1f, fI_add1, li0, li1, li2, li3, li4, li5, li6, li7, li8, li9, li10, li12, li15, li16, li19, li20, li26, li30, li31, li32, li48, li57, li59, li60, li64, li99, li100, li128, li240, li255, li480, li999, li1000, li9000, li9999, liF, nI_add, sb_nI, pk_mul, dv_nI, cl_nI, inbT, le_nI, lt_nI, eq_nI, fI_le, fI_eq, st_ne, st_at, iT, iF, Nat.zero_add, Nat.add_zero, not_true_eq_false, not_false_eq_true, true_and, and_true, false_and, and_false, or_true, true_or, or_false, false_or, Nat.reduceEqDiff, Nat.reduceLeDiff, Nat.reduceLT, Nat.reduceAdd, Nat.reduceSub, Nat.reduceMul, Nat.reduceDiv, Nat.reduceMod, ↓reduceIte, show ¬ 30 ≤ i by omega, e, e2, s]
theorem gb_und {a : Ab} (g : Gb a) (h0 : 0 < a 5 3) : Gb (undA a) := by
  have hu := gb_undos g
  obtain ⟨g1, g2, g3, g4, g5, g6, g7, g8, g9⟩ := g
  have e5 : ∀ k, k ≠ 3 → undA a 5 k = a 5 k := fun k hk => va_up_ne _ _ hk
  have e53 : undA a 5 3 = a 5 3 - 1 := va_up_self (a 5) 3 _
  have eo : ∀ n, n ≠ 4 → n ≠ 5 → undA a n = a n := fun n h4 h5 => by
    unfold undA
    rw [va_up_ne _ _ h5, va_up_ne _ _ h4]
  refine ⟨g1, g2, g6 (a 5 3 - 1) (by omega), ⟨g4.1, g4.2.1, g4.2.2.1, by rw [e53]; omega, g4.2.2.2.2.1, g4.2.2.2.2.2⟩, g5, fun i hi => ?_, g7, g8, fun i hi => ?_⟩
  · rw [e53] at hi
    rw [eo (20 + i) (by omega) (by omega)]
    exact g6 i (by omega)
  · rw [eo (40 + i) (by omega) (by omega), e5 (6 + i) (by omega)]
    exact g9 i hi
