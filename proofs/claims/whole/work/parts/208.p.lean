/-! the reference: what is tried -/
def trs (a : Ab) (σ : Sg) (i : Nat) : Sg := fun n k => if n = 136 ∧ 30 ≤ k ∧ k < 30 + i then nI (a 4 (k - 30)) else σ n k
theorem trs_st {a : Ab} {σ : Sg} {i : Nat} : st (trs a σ i) 136 (30 + i) (nI (a 4 i)) = trs a σ (i + 1) := by
  funext m j
  rw [st_eq]
  unfold trs
  by_cases q : m = 136 ∧ j = 30 + i
  · rw [if_pos q, if_pos ⟨q.1, by omega, by omega⟩, q.2, Nat.add_sub_cancel_left]
  · rw [if_neg q]
    by_cases z : m = 136 ∧ 30 ≤ j ∧ j < 30 + i
    · rw [if_pos z, if_pos ⟨z.1, by omega, by omega⟩]
    · rw [if_neg z, if_neg (fun y => z ⟨y.1, y.2.1, by
        rcases Nat.lt_or_ge j (30 + i) with u | u
        · exact u
        · exact absurd ⟨y.1, by omega⟩ q⟩)]
theorem mTries {a : Ab} {σ : Sg} (h : RelM a σ) : fX12_tries σ = some (wr σ 30 (a 4)) := by
  unfold fX12_tries
  rw [li0]
  have e0 : trs a σ 0 = σ := by
    funext m j
    unfold trs
    rw [if_neg (by omega)]
  have key := (loop0 (fun n i (_ : Unit) => fX12_tries_2 n (fun σ_5 => some σ_5) (trs a σ i) (nI i)) 30 (by omega) (fun _ => some (trs a σ 30)) (fun _ _ => True) (fun _ u => u) ?_ ?_ (fun _ _ _ _ => trivial) () trivial).1
  · simp only [e0] at key
    rw [key]
    rfl
  · intro n _ _
    simp only [fX12_tries_2_s]
    unfold fX12_tries_2b
    simp (disch := omega) only [lt_eq, bi_some, bv_some, ↓lim1, pk_m1f, fI_add1, li0, li1, li2, li3, li4, li5, li6, li7, li8, li9, li10, li12, li15, li16, li19, li20, li26, li30, li31, li32, li48, li57, li59, li60, li64, li99, li100, li128, li240, li255, li480, li999, li1000, li9000, li9999, liF, nI_add, sb_nI, pk_mul, dv_nI, cl_nI, inbT, le_nI, lt_nI, eq_nI, fI_le, fI_eq, st_ne, st_at, iT, iF, Nat.zero_add, Nat.add_zero, not_true_eq_false, not_false_eq_true, true_and, and_true, false_and, and_false, or_true, true_or, or_false, false_or, Nat.reduceEqDiff, Nat.reduceLeDiff, Nat.reduceLT, Nat.reduceAdd, Nat.reduceSub, Nat.reduceMul, Nat.reduceDiv, Nat.reduceMod, ↓reduceIte, Nat.le_refl]
  · intro n i _ hi _
    simp only [fX12_tries_2_s]
    unfold fX12_tries_2b
    have e1 : trs a σ i 136 i = nI (a 4 i) := by
      unfold trs
      rw [if_neg (by omega)]
      exact rm_w h hi
    simp (disch := omega) only [lt_eq, bi_some, bv_some, ↓lim1, pk_m1f, fI_add1, li0, li1, li2, li3, li4, li5, li6, li7, li8, li9, li10, li12, li15, li16, li19, li20, li26, li30, li31, li32, li48, li57, li59, li60, li64, li99, li100, li128, li240, li255, li480, li999, li1000, li9000, li9999, liF, nI_add, sb_nI, pk_mul, dv_nI, cl_nI, inbT, le_nI, lt_nI, eq_nI, fI_le, fI_eq, st_ne, st_at, iT, iF, Nat.zero_add, Nat.add_zero, not_true_eq_false, not_false_eq_true, true_and, and_true, false_and, and_false, or_true, true_or, or_false, false_or, Nat.reduceEqDiff, Nat.reduceLeDiff, Nat.reduceLT, Nat.reduceAdd, Nat.reduceSub, Nat.reduceMul, Nat.reduceDiv, Nat.reduceMod, ↓reduceIte, show ¬ 30 ≤ i by omega, e1, trs_st]
theorem Sm.wr (σ : Sg) (w : Nat → Nat) : Sm σ (wr σ 30 w) := by
  intro n k h
  show (if n = 136 ∧ 30 ≤ k ∧ k < 30 + 30 then nI (w (k - 30)) else σ n k) = σ n k
  rw [if_neg]
  intro q
  rw [q.1] at h
  simp [scM] at h
  omega
/-- whether nothing would be owed -/
def bor (a : Ab) : Nat := if yr a (a 4) 2 = 0 then 1 else 0
theorem mBorne {a : Ab} {σ : Sg} (h : RelM a σ) (g : Gb a) : ∃ τ, fX12_borne σ = some (nI (bor a), τ) ∧ Sm σ τ := by
  have hy := gb_yr g
  have y := mYear (Hm.of h) g (r := 30) (w := a 4) (by omega) (gb_w g) (by omega)
  have ho := wc_owed y.2
  refine ⟨wr σ 30 (yr a (a 4)), ?_, Sm.wr _ _⟩
  unfold fX12_borne bor
  have a2 := wr_at σ 30 (yr a (a 4)) (k := 2) (by omega)
  simp (disch := omega) only [lt_eq, bi_some, bv_some, ↓lim1, pk_m1f, fI_add1, li0, li1, li2, li3, li4, li5, li6, li7, li8, li9, li10, li12, li15, li16, li19, li20, li26, li30, li31, li32, li48, li57, li59, li60, li64, li99, li100, li128, li240, li255, li480, li999, li1000, li9000, li9999, liF, nI_add, sb_nI, pk_mul, dv_nI, cl_nI, inbT, le_nI, lt_nI, eq_nI, fI_le, fI_eq, st_ne, st_at, iT, iF, Nat.zero_add, Nat.add_zero, not_true_eq_false, not_false_eq_true, true_and, and_true, false_and, and_false, or_true, true_or, or_false, false_or, Nat.reduceEqDiff, Nat.reduceLeDiff, Nat.reduceLT, Nat.reduceAdd, Nat.reduceSub, Nat.reduceMul, Nat.reduceDiv, Nat.reduceMod, ↓reduceIte, mTries h, y.1, a2]
  by_cases q : yr a (a 4) 2 = 0
  · rw [if_pos q, if_pos q]
  · rw [if_neg q, if_neg q]
/-- behind how many years nothing is owed, and 1; 0: never -/
def mu (a : Ab) : Nat → Nat → (Nat → Nat) → Nat
  | 0, _, _ => 0
  | d + 1, n, w => if w 2 = 0 then n + 1 else mu a d (n + 1) (yr a w)
theorem yr_yrs (a : Ab) (w : Nat → Nat) : yr a w 1 = w 1 + 1 := by
  unfold yr yre
  rw [va_up_ne _ _ (by omega), va_up_ne _ _ (by omega), va_up_self]
  have q1 : yr1 (a 0 4) w 1 = w 1 := fo_inv (fun i w' => w' 1 = w 1) (f := fun p w => va_up (hrt w p (w (12 + p))) (12 + p) 0) (a 0 4) 0 w rfl (by
    intro j w' h1 h2 h3
    show va_up (hrt w' j (w' (12 + j))) (12 + j) 0 1 = w 1
    unfold hrt
    rw [va_up_ne _ _ (by omega), va_up_ne _ _ (by omega)]; exact h3)
  have q2 := fo_inv (fun i w' => w' 1 = w 1) (f := fun v w => yrv (a 0 4) (a 2) v w) (a 0 3) 0 (yr1 (a 0 4) w) q1 (by
    intro j w' h1 h2 h3
    show yrv (a 0 4) (a 2) j w' 1 = w 1
    unfold yrv
    rw [va_up_ne _ _ (by omega), yrh_keep _ _ _ _ (by omega)]; exact h3)
  exact congrArg (· + 1) q2
theorem mMade_loop {a : Ab} {σ : Sg} (h : RelM a σ) (g : Gb a) : ∀ (d n fu : Nat) (w : Nat → Nat), n + d = 61 → d < fu → Wc (a 0 1) (a 0 3) (a 0 4) w → w 1 ≤ 20000 + n → ∃ τ, fX12_madeUp_6 fu (fun σ_7 => some ((-1), σ_7)) (wr σ 30 w) (nI n) = some (fI (mu a d n w), τ) ∧ Sm σ τ := by
  intro d
  induction d with
  | zero =>
    intro n fu w h1 h2 hw hy
    cases fu with
    | zero => omega
    | succ fu =>
      refine ⟨wr σ 30 w, ?_, Sm.wr _ _⟩
      rw [fX12_madeUp_6_s]
      unfold fX12_madeUp_6b mu
      simp (disch := omega) only [lt_eq, bi_some, bv_some, ↓lim1, pk_m1f, fI_add1, li0, li1, li2, li3, li4, li5, li6, li7, li8, li9, li10, li12, li15, li16, li19, li20, li26, li30, li31, li32, li48, li57, li59, li60, li64, li99, li100, li128, li240, li255, li480, li999, li1000, li9000, li9999, liF, nI_add, sb_nI, pk_mul, dv_nI, cl_nI, inbT, le_nI, lt_nI, eq_nI, fI_le, fI_eq, st_ne, st_at, iT, iF, Nat.zero_add, Nat.add_zero, not_true_eq_false, not_false_eq_true, true_and, and_true, false_and, and_false, or_true, true_or, or_false, false_or, Nat.reduceEqDiff, Nat.reduceLeDiff, Nat.reduceLT, Nat.reduceAdd, Nat.reduceSub, Nat.reduceMul, Nat.reduceDiv, Nat.reduceMod, ↓reduceIte, show 60 < n by omega]
  | succ d ih =>
    intro n fu w h1 h2 hw hy
    cases fu with
    | zero => omega
    | succ fu =>
      have ho := wc_owed hw
      have a2 := wr_at σ 30 w (k := 2) (by omega)
      have y := mYear (Hm.of h) g (r := 30) (w := w) (by omega) hw (by omega)
      rw [fX12_madeUp_6_s]
      unfold fX12_madeUp_6b mu
      simp (disch := omega) only [lt_eq, bi_some, bv_some, ↓lim1, pk_m1f, fI_add1, li0, li1, li2, li3, li4, li5, li6, li7, li8, li9, li10, li12, li15, li16, li19, li20, li26, li30, li31, li32, li48, li57, li59, li60, li64, li99, li100, li128, li240, li255, li480, li999, li1000, li9000, li9999, liF, nI_add, sb_nI, pk_mul, dv_nI, cl_nI, inbT, le_nI, lt_nI, eq_nI, fI_le, fI_eq, st_ne, st_at, iT, iF, Nat.zero_add, Nat.add_zero, not_true_eq_false, not_false_eq_true, true_and, and_true, false_and, and_false, or_true, true_or, or_false, false_or, Nat.reduceEqDiff, Nat.reduceLeDiff, Nat.reduceLT, Nat.reduceAdd, Nat.reduceSub, Nat.reduceMul, Nat.reduceDiv, Nat.reduceMod, ↓reduceIte, show ¬ 60 < n by omega, a2]
      by_cases q : w 2 = 0
      · rw [if_pos q, if_pos q, fI_s]
        exact ⟨_, rfl, Sm.wr _ _⟩
      · rw [if_neg q, if_neg q]
        simp (disch := omega) only [lt_eq, bi_some, bv_some, ↓lim1, pk_m1f, fI_add1, li0, li1, li2, li3, li4, li5, li6, li7, li8, li9, li10, li12, li15, li16, li19, li20, li26, li30, li31, li32, li48, li57, li59, li60, li64, li99, li100, li128, li240, li255, li480, li999, li1000, li9000, li9999, liF, nI_add, sb_nI, pk_mul, dv_nI, cl_nI, inbT, le_nI, lt_nI, eq_nI, fI_le, fI_eq, st_ne, st_at, iT, iF, Nat.zero_add, Nat.add_zero, not_true_eq_false, not_false_eq_true, true_and, and_true, false_and, and_false, or_true, true_or, or_false, false_or, Nat.reduceEqDiff, Nat.reduceLeDiff, Nat.reduceLT, Nat.reduceAdd, Nat.reduceSub, Nat.reduceMul, Nat.reduceDiv, Nat.reduceMod, ↓reduceIte, y.1]
        exact ih (n + 1) fu (yr a w) (by omega) (by omega) y.2 (by rw [yr_yrs]; omega)
theorem mMade {a : Ab} {σ : Sg} (h : RelM a σ) (g : Gb a) : ∃ τ, fX12_madeUp σ = some (fI (mu a 61 0 (a 4)), τ) ∧ Sm σ τ := by
  have hy := gb_yr g
  unfold fX12_madeUp
  rw [mTries h, bv_some, li0]
  exact mMade_loop h g 61 0 FU (a 4) rfl (by have := FU_ge; omega) (gb_w g) (by omega)
/-- what would fall on a village -/
def had (a : Ab) (v : Nat) : Nat := (fo (fun u (s : Nat × Nat) => (s.1 - tkn (ofV (a 0 4) (a 2) u) (a 4 4) (a 4 (26 + u)) s.1, tkn (ofV (a 0 4) (a 2) u) (a 4 4) (a 4 (26 + u)) s.1)) (v + 1) 0 (a 4 2, 0)).2
theorem mHad {a : Ab} {σ : Sg} (h : RelM a σ) (g : Gb a) {v : Nat} (hv : v < a 0 3) : fX12_had σ (nI v) = some (nI (had a v), σ) := by
  have hV := gb_V g
  have ho := wc_owed (gb_w g)
  unfold fX12_had had
  simp (disch := omega) only [lt_eq, bi_some, bv_some, ↓lim1, pk_m1f, fI_add1, li0, li1, li2, li3, li4, li5, li6, li7, li8, li9, li10, li12, li15, li16, li19, li20, li26, li30, li31, li32, li48, li57, li59, li60, li64, li99, li100, li128, li240, li255, li480, li999, li1000, li9000, li9999, liF, nI_add, sb_nI, pk_mul, dv_nI, cl_nI, inbT, le_nI, lt_nI, eq_nI, fI_le, fI_eq, st_ne, st_at, iT, iF, Nat.zero_add, Nat.add_zero, not_true_eq_false, not_false_eq_true, true_and, and_true, false_and, and_false, or_true, true_or, or_false, false_or, Nat.reduceEqDiff, Nat.reduceLeDiff, Nat.reduceLT, Nat.reduceAdd, Nat.reduceSub, Nat.reduceMul, Nat.reduceDiv, Nat.reduceMod, ↓reduceIte, rm_w h]
  refine (loop0 (fun n i (s : Nat × Nat) => fX12_had_12 n (fun σ_7 x3_7 => some (x3_7, σ_7)) σ (nI v) (nI s.1) (nI s.2) (nI i)) (v + 1) (by omega) (fun s => some (nI s.2, σ)) (fun i s => s.1 ≤ 9999) _ ?_ ?_ ?_ (a 4 2, 0) ho).1
  · intro n s hs
    simp only [fX12_had_12_s]
    unfold fX12_had_12b
    simp (disch := omega) only [lt_eq, bi_some, bv_some, ↓lim1, pk_m1f, fI_add1, li0, li1, li2, li3, li4, li5, li6, li7, li8, li9, li10, li12, li15, li16, li19, li20, li26, li30, li31, li32, li48, li57, li59, li60, li64, li99, li100, li128, li240, li255, li480, li999, li1000, li9000, li9999, liF, nI_add, sb_nI, pk_mul, dv_nI, cl_nI, inbT, le_nI, lt_nI, eq_nI, fI_le, fI_eq, st_ne, st_at, iT, iF, Nat.zero_add, Nat.add_zero, not_true_eq_false, not_false_eq_true, true_and, and_true, false_and, and_false, or_true, true_or, or_false, false_or, Nat.reduceEqDiff, Nat.reduceLeDiff, Nat.reduceLT, Nat.reduceAdd, Nat.reduceSub, Nat.reduceMul, Nat.reduceDiv, Nat.reduceMod, ↓reduceIte, show v < v + 1 by omega]
  · intro n i s hi hs
    have t := mTakes (Hm.of h) g (r := 0) (v := i) (w := a 4) (o := s.1) (by omega) (by omega) (gb_w g) hs
    rw [wr_self h] at t
    have htk := tkn_le (ofV (a 0 4) (a 2) i) (a 4 4) (a 4 (26 + i)) s.1
    simp only [fX12_had_12_s]
    unfold fX12_had_12b
    simp (disch := omega) only [lt_eq, bi_some, bv_some, ↓lim1, pk_m1f, fI_add1, li0, li1, li2, li3, li4, li5, li6, li7, li8, li9, li10, li12, li15, li16, li19, li20, li26, li30, li31, li32, li48, li57, li59, li60, li64, li99, li100, li128, li240, li255, li480, li999, li1000, li9000, li9999, liF, nI_add, sb_nI, pk_mul, dv_nI, cl_nI, inbT, le_nI, lt_nI, eq_nI, fI_le, fI_eq, st_ne, st_at, iT, iF, Nat.zero_add, Nat.add_zero, not_true_eq_false, not_false_eq_true, true_and, and_true, false_and, and_false, or_true, true_or, or_false, false_or, Nat.reduceEqDiff, Nat.reduceLeDiff, Nat.reduceLT, Nat.reduceAdd, Nat.reduceSub, Nat.reduceMul, Nat.reduceDiv, Nat.reduceMod, ↓reduceIte, show ¬ v < i by omega, t]
  · intro i s hi hs
    show s.1 - _ ≤ 9999
    omega
/-- who is told a fate -/
def tof (P : Nat) (w : Nat → Nat) : Nat := fo (fun p s => if 0 < w (12 + p) then ins s p else s) P 0 0
theorem mTof {a : Ab} {σ : Sg} (h : RelM a σ) (g : Gb a) : fX12_toldFate σ = some (nI (tof (a 0 4) (a 4)), σ) := by
  have hP := gb_P g
  unfold fX12_toldFate
  rw [li0]
  refine (loop0 (fun n i s => fX12_toldFate_4 n (fun σ_6 x1_6 => some (x1_6, σ_6)) σ (nI s) (nI i)) (a 0 4) (by omega) (fun s => some (nI s, σ)) (fun i s => s < 128) (fun p s => if 0 < a 4 (12 + p) then ins s p else s) ?_ ?_ ?_ 0 (by omega)).1
  · intro n s hs
    simp only [fX12_toldFate_4_s]
    unfold fX12_toldFate_4b
    simp (disch := omega) only [lt_eq, bi_some, bv_some, ↓lim1, pk_m1f, fI_add1, li0, li1, li2, li3, li4, li5, li6, li7, li8, li9, li10, li12, li15, li16, li19, li20, li26, li30, li31, li32, li48, li57, li59, li60, li64, li99, li100, li128, li240, li255, li480, li999, li1000, li9000, li9999, liF, nI_add, sb_nI, pk_mul, dv_nI, cl_nI, inbT, le_nI, lt_nI, eq_nI, fI_le, fI_eq, st_ne, st_at, iT, iF, Nat.zero_add, Nat.add_zero, not_true_eq_false, not_false_eq_true, true_and, and_true, false_and, and_false, or_true, true_or, or_false, false_or, Nat.reduceEqDiff, Nat.reduceLeDiff, Nat.reduceLT, Nat.reduceAdd, Nat.reduceSub, Nat.reduceMul, Nat.reduceDiv, Nat.reduceMod, ↓reduceIte, rm_P h, Nat.le_refl]
  · intro n i s hi hs
    have hf := wc_fate (gb_w g) hi
    simp only [fX12_toldFate_4_s]
    unfold fX12_toldFate_4b fX12_toldFate_32
    simp (disch := omega) only [lt_eq, bi_some, bv_some, ↓lim1, pk_m1f, fI_add1, li0, li1, li2, li3, li4, li5, li6, li7, li8, li9, li10, li12, li15, li16, li19, li20, li26, li30, li31, li32, li48, li57, li59, li60, li64, li99, li100, li128, li240, li255, li480, li999, li1000, li9000, li9999, liF, nI_add, sb_nI, pk_mul, dv_nI, cl_nI, inbT, le_nI, lt_nI, eq_nI, fI_le, fI_eq, st_ne, st_at, iT, iF, Nat.zero_add, Nat.add_zero, not_true_eq_false, not_false_eq_true, true_and, and_true, false_and, and_false, or_true, true_or, or_false, false_or, Nat.reduceEqDiff, Nat.reduceLeDiff, Nat.reduceLT, Nat.reduceAdd, Nat.reduceSub, Nat.reduceMul, Nat.reduceDiv, Nat.reduceMod, ↓reduceIte, rm_P h, show ¬ a 0 4 ≤ i by omega, rm_w h]
    by_cases q : 0 < a 4 (12 + i)
    · rw [if_neg (by omega), if_pos q, ← li31, ← li1, ins_nI hs (by omega)]
    · rw [if_pos (by omega), if_neg q, or_nI0]
  · intro i s hi hs
    show (if 0 < a 4 (12 + i) then ins s i else s) < 128
    split
    · exact ins_lt hs (by omega)
    · exact hs
/-- who is worst off, and 1 -/
def wst (P : Nat) (w : Nat → Nat) : Nat := (fo (fun p (s : Nat × Nat) => if s.2 ≤ w (19 + p) then (p + 1, w (19 + p) + 1) else s) P 0 (0, 0)).1
theorem mWorst {a : Ab} {σ : Sg} (h : RelM a σ) (g : Gb a) : fX12_worst σ = some (fI (wst (a 0 4) (a 4)), σ) := by
  have hP := gb_P g
  unfold fX12_worst
  simp (disch := omega) only [lt_eq, bi_some, bv_some, ↓lim1, pk_m1f, fI_add1, li0, li1, li2, li3, li4, li5, li6, li7, li8, li9, li10, li12, li15, li16, li19, li20, li26, li30, li31, li32, li48, li57, li59, li60, li64, li99, li100, li128, li240, li255, li480, li999, li1000, li9000, li9999, liF, nI_add, sb_nI, pk_mul, dv_nI, cl_nI, inbT, le_nI, lt_nI, eq_nI, fI_le, fI_eq, st_ne, st_at, iT, iF, Nat.zero_add, Nat.add_zero, not_true_eq_false, not_false_eq_true, true_and, and_true, false_and, and_false, or_true, true_or, or_false, false_or, Nat.reduceEqDiff, Nat.reduceLeDiff, Nat.reduceLT, Nat.reduceAdd, Nat.reduceSub, Nat.reduceMul, Nat.reduceDiv, Nat.reduceMod, ↓reduceIte]
  refine (loop0 (fun n i (s : Nat × Nat) => fX12_worst_6 n (fun σ_10 x1_10 => some (x1_10, σ_10)) σ (fI s.1) (fI s.2) (nI i)) (a 0 4) (by omega) (fun s => some (fI s.1, σ)) (fun i s => s.2 ≤ 10000) (fun p (s : Nat × Nat) => if s.2 ≤ a 4 (19 + p) then (p + 1, a 4 (19 + p) + 1) else s) ?_ ?_ ?_ (0, 0) (by show 0 ≤ 10000; omega)).1
  · intro n s hs
    simp only [fX12_worst_6_s]
    unfold fX12_worst_6b
    simp (disch := omega) only [lt_eq, bi_some, bv_some, ↓lim1, pk_m1f, fI_add1, li0, li1, li2, li3, li4, li5, li6, li7, li8, li9, li10, li12, li15, li16, li19, li20, li26, li30, li31, li32, li48, li57, li59, li60, li64, li99, li100, li128, li240, li255, li480, li999, li1000, li9000, li9999, liF, nI_add, sb_nI, pk_mul, dv_nI, cl_nI, inbT, le_nI, lt_nI, eq_nI, fI_le, fI_eq, st_ne, st_at, iT, iF, Nat.zero_add, Nat.add_zero, not_true_eq_false, not_false_eq_true, true_and, and_true, false_and, and_false, or_true, true_or, or_false, false_or, Nat.reduceEqDiff, Nat.reduceLeDiff, Nat.reduceLT, Nat.reduceAdd, Nat.reduceSub, Nat.reduceMul, Nat.reduceDiv, Nat.reduceMod, ↓reduceIte, rm_P h, Nat.le_refl]
  · intro n i s hi hs
    have hh := wc_harm (gb_w g) hi
    simp only [fX12_worst_6_s]
    unfold fX12_worst_6b fX12_worst_32 fX12_worst_59
    simp (disch := omega) only [lt_eq, bi_some, bv_some, ↓lim1, pk_m1f, fI_add1, li0, li1, li2, li3, li4, li5, li6, li7, li8, li9, li10, li12, li15, li16, li19, li20, li26, li30, li31, li32, li48, li57, li59, li60, li64, li99, li100, li128, li240, li255, li480, li999, li1000, li9000, li9999, liF, nI_add, sb_nI, pk_mul, dv_nI, cl_nI, inbT, le_nI, lt_nI, eq_nI, fI_le, fI_eq, st_ne, st_at, iT, iF, Nat.zero_add, Nat.add_zero, not_true_eq_false, not_false_eq_true, true_and, and_true, false_and, and_false, or_true, true_or, or_false, false_or, Nat.reduceEqDiff, Nat.reduceLeDiff, Nat.reduceLT, Nat.reduceAdd, Nat.reduceSub, Nat.reduceMul, Nat.reduceDiv, Nat.reduceMod, ↓reduceIte, rm_P h, show ¬ a 0 4 ≤ i by omega, rm_w h]
    by_cases q : s.2 ≤ a 4 (19 + i)
    · rw [if_neg (by omega), if_neg (by omega), if_pos q, fI_s, fI_s]
    · rw [if_pos (by omega), if_pos (by omega), if_neg q]
  · intro i s hi hs
    have hh := wc_harm (gb_w g) hi
    show (if s.2 ≤ a 4 (19 + i) then (i + 1, a 4 (19 + i) + 1) else s).2 ≤ 10000
    split
    · show a 4 (19 + i) + 1 ≤ 10000; omega
    · exact hs
