/-! the reference: shares, odds -/
/-- what villages from f on can have, none more than lev -/
def sma (V : Nat) (w : Nat → Nat) (lev f : Nat) : Nat := fo (fun v s => s + (if lev ≤ w (26 + v) then lev else w (26 + v))) (V - f) f 0
theorem sma_le {V : Nat} {w : Nat → Nat} (hV : V ≤ 4) (hb : ∀ v, v < V → w (26 + v) ≤ 99) (lev f : Nat) : sma V w lev f ≤ 99 * (V - f) := by
  have := fo_inv (fun i s => s ≤ 99 * (i - f)) (f := fun v s => s + (if lev ≤ w (26 + v) then lev else w (26 + v))) (V - f) f 0 (by omega) (by
    intro j s h1 h2 h3
    have := hb j (by omega)
    show s + (if lev ≤ w (26 + j) then lev else w (26 + j)) ≤ 99 * (j + 1 - f)
    split <;> omega)
  rw [Nat.add_sub_cancel_left] at this
  exact this
theorem mSumAt {a : Ab} {σ : Sg} (h : RelM a σ) (g : Gb a) {lev f : Nat} (hl : lev ≤ 100) (hf : f ≤ a 0 3) {x : Int32} (hx : x = fI f) : fX12_sumAt σ (nI lev) x = some (nI (sma (a 0 3) (a 4) lev f), σ) := by
  have hV := gb_V g
  unfold fX12_sumAt
  subst hx
  simp (disch := omega) only [lt_eq, bi_some, bv_some, ↓lim1, pk_m1f, fI_add1, li0, li1, li2, li3, li4, li5, li6, li7, li8, li9, li10, li12, li15, li16, li19, li20, li26, li30, li31, li32, li48, li57, li59, li60, li64, li99, li100, li128, li240, li255, li480, li999, li1000, li9000, li9999, liF, nI_add, sb_nI, pk_mul, dv_nI, cl_nI, inbT, le_nI, lt_nI, eq_nI, fI_le, fI_eq, st_ne, st_at, iT, iF, Nat.zero_add, Nat.add_zero, not_true_eq_false, not_false_eq_true, true_and, and_true, false_and, and_false, or_true, true_or, or_false, false_or, Nat.reduceEqDiff, Nat.reduceLeDiff, Nat.reduceLT, Nat.reduceAdd, Nat.reduceSub, Nat.reduceMul, Nat.reduceDiv, Nat.reduceMod, ↓reduceIte]
  refine (loopN (fun n i s => fX12_sumAt_7 n (fun σ_8 x3_8 => some (x3_8, σ_8)) σ (nI lev) (nI s) (nI i)) (a 0 3) (fun s => some (nI s, σ)) (fun i s => s ≤ 100 * i) (fun v s => s + (if lev ≤ a 4 (26 + v) then lev else a 4 (26 + v))) ?_ ?_ ?_ (a 0 3 - f) f FU 0 (by omega) (by have := FU_ge; omega) (by omega)).1
  · intro n s hs
    simp only [fX12_sumAt_7_s]
    unfold fX12_sumAt_7b
    simp (disch := omega) only [lt_eq, bi_some, bv_some, ↓lim1, pk_m1f, fI_add1, li0, li1, li2, li3, li4, li5, li6, li7, li8, li9, li10, li12, li15, li16, li19, li20, li26, li30, li31, li32, li48, li57, li59, li60, li64, li99, li100, li128, li240, li255, li480, li999, li1000, li9000, li9999, liF, nI_add, sb_nI, pk_mul, dv_nI, cl_nI, inbT, le_nI, lt_nI, eq_nI, fI_le, fI_eq, st_ne, st_at, iT, iF, Nat.zero_add, Nat.add_zero, not_true_eq_false, not_false_eq_true, true_and, and_true, false_and, and_false, or_true, true_or, or_false, false_or, Nat.reduceEqDiff, Nat.reduceLeDiff, Nat.reduceLT, Nat.reduceAdd, Nat.reduceSub, Nat.reduceMul, Nat.reduceDiv, Nat.reduceMod, ↓reduceIte, rm_V h, Nat.le_refl]
  · intro n i s hi hs
    have hb := wc_bear (gb_w g) hi
    simp only [fX12_sumAt_7_s]
    unfold fX12_sumAt_7b fX12_sumAt_45
    simp (disch := omega) only [lt_eq, bi_some, bv_some, ↓lim1, pk_m1f, fI_add1, li0, li1, li2, li3, li4, li5, li6, li7, li8, li9, li10, li12, li15, li16, li19, li20, li26, li30, li31, li32, li48, li57, li59, li60, li64, li99, li100, li128, li240, li255, li480, li999, li1000, li9000, li9999, liF, nI_add, sb_nI, pk_mul, dv_nI, cl_nI, inbT, le_nI, lt_nI, eq_nI, fI_le, fI_eq, st_ne, st_at, iT, iF, Nat.zero_add, Nat.add_zero, not_true_eq_false, not_false_eq_true, true_and, and_true, false_and, and_false, or_true, true_or, or_false, false_or, Nat.reduceEqDiff, Nat.reduceLeDiff, Nat.reduceLT, Nat.reduceAdd, Nat.reduceSub, Nat.reduceMul, Nat.reduceDiv, Nat.reduceMod, ↓reduceIte, rm_V h, show ¬ a 0 3 ≤ i by omega, rm_w h]
    by_cases q : lev ≤ a 4 (26 + i)
    · rw [if_pos q, if_pos q]
    · rw [if_neg q, if_neg q]
  · intro i s hi hs
    have hb := wc_bear (gb_w g) hi
    show s + (if lev ≤ a 4 (26 + i) then lev else a 4 (26 + i)) ≤ 100 * (i + 1)
    split <;> omega
/-- the least level that serves, and 1 -/
def lvl (S : Nat → Nat) (v : Nat) : Nat → Nat → Nat
  | 0, lev => if v ≤ S lev then lev + 1 else 0
  | d + 1, lev => if v ≤ S lev then lev + 1 else lvl S v d (lev + 1)
theorem lvl_le (S : Nat → Nat) (v : Nat) : ∀ d lev, lvl S v d lev ≤ lev + d + 1 := by
  intro d
  induction d with
  | zero => intro lev; unfold lvl; split <;> omega
  | succ d ih =>
    intro lev
    unfold lvl
    split
    · omega
    · have := ih (lev + 1); omega
theorem mLevel {a : Ab} {σ : Sg} (h : RelM a σ) (g : Gb a) {v : Nat} (hv : v ≤ 999) : fX12_levelOf σ (nI v) = some (fI (lvl (fun lev => sma (a 0 3) (a 4) lev 0) v 100 0), σ) := by
  have hV := gb_V g
  have hs : ∀ lev, sma (a 0 3) (a 4) lev 0 ≤ 396 := fun lev => Nat.le_trans (sma_le hV (fun u hu => wc_bear (gb_w g) hu) lev 0) (by omega)
  have key : ∀ (d lev fu : Nat), lev + d = 100 → d < fu → fX12_levelOf_4 fu (fun σ_5 x1_5 x2_5 x3_5 => fX12_levelOf_28 σ_5 x1_5 x2_5 x3_5) σ (nI v) (nI lev) (nI (sma (a 0 3) (a 4) lev 0)) = some (fI (lvl (fun lev => sma (a 0 3) (a 4) lev 0) v d lev), σ) := by
    intro d
    induction d with
    | zero =>
      intro lev fu h1 h2
      cases fu with
      | zero => omega
      | succ fu =>
        have := hs lev
        rw [fX12_levelOf_4_s]
        unfold fX12_levelOf_4b fX12_levelOf_28 lvl
        simp (disch := omega) only [lt_eq, bi_some, bv_some, ↓lim1, pk_m1f, fI_add1, li0, li1, li2, li3, li4, li5, li6, li7, li8, li9, li10, li12, li15, li16, li19, li20, li26, li30, li31, li32, li48, li57, li59, li60, li64, li99, li100, li128, li240, li255, li480, li999, li1000, li9000, li9999, liF, nI_add, sb_nI, pk_mul, dv_nI, cl_nI, inbT, le_nI, lt_nI, eq_nI, fI_le, fI_eq, st_ne, st_at, iT, iF, Nat.zero_add, Nat.add_zero, not_true_eq_false, not_false_eq_true, true_and, and_true, false_and, and_false, or_true, true_or, or_false, false_or, Nat.reduceEqDiff, Nat.reduceLeDiff, Nat.reduceLT, Nat.reduceAdd, Nat.reduceSub, Nat.reduceMul, Nat.reduceDiv, Nat.reduceMod, ↓reduceIte, show 100 ≤ lev by omega]
        by_cases q : v ≤ sma (a 0 3) (a 4) lev 0
        · simp (disch := omega) only [lt_eq, bi_some, bv_some, ↓lim1, pk_m1f, fI_add1, li0, li1, li2, li3, li4, li5, li6, li7, li8, li9, li10, li12, li15, li16, li19, li20, li26, li30, li31, li32, li48, li57, li59, li60, li64, li99, li100, li128, li240, li255, li480, li999, li1000, li9000, li9999, liF, nI_add, sb_nI, pk_mul, dv_nI, cl_nI, inbT, le_nI, lt_nI, eq_nI, fI_le, fI_eq, st_ne, st_at, iT, iF, Nat.zero_add, Nat.add_zero, not_true_eq_false, not_false_eq_true, true_and, and_true, false_and, and_false, or_true, true_or, or_false, false_or, Nat.reduceEqDiff, Nat.reduceLeDiff, Nat.reduceLT, Nat.reduceAdd, Nat.reduceSub, Nat.reduceMul, Nat.reduceDiv, Nat.reduceMod, ↓reduceIte, q, fI_s]
        · simp (disch := omega) only [lt_eq, bi_some, bv_some, ↓lim1, pk_m1f, fI_add1, li0, li1, li2, li3, li4, li5, li6, li7, li8, li9, li10, li12, li15, li16, li19, li20, li26, li30, li31, li32, li48, li57, li59, li60, li64, li99, li100, li128, li240, li255, li480, li999, li1000, li9000, li9999, liF, nI_add, sb_nI, pk_mul, dv_nI, cl_nI, inbT, le_nI, lt_nI, eq_nI, fI_le, fI_eq, st_ne, st_at, iT, iF, Nat.zero_add, Nat.add_zero, not_true_eq_false, not_false_eq_true, true_and, and_true, false_and, and_false, or_true, true_or, or_false, false_or, Nat.reduceEqDiff, Nat.reduceLeDiff, Nat.reduceLT, Nat.reduceAdd, Nat.reduceSub, Nat.reduceMul, Nat.reduceDiv, Nat.reduceMod, ↓reduceIte, q]
    | succ d ih =>
      intro lev fu h1 h2
      cases fu with
      | zero => omega
      | succ fu =>
        have := hs lev
        rw [fX12_levelOf_4_s]
        unfold fX12_levelOf_4b lvl
        by_cases q : v ≤ sma (a 0 3) (a 4) lev 0
        · unfold fX12_levelOf_28
          simp (disch := omega) only [lt_eq, bi_some, bv_some, ↓lim1, pk_m1f, fI_add1, li0, li1, li2, li3, li4, li5, li6, li7, li8, li9, li10, li12, li15, li16, li19, li20, li26, li30, li31, li32, li48, li57, li59, li60, li64, li99, li100, li128, li240, li255, li480, li999, li1000, li9000, li9999, liF, nI_add, sb_nI, pk_mul, dv_nI, cl_nI, inbT, le_nI, lt_nI, eq_nI, fI_le, fI_eq, st_ne, st_at, iT, iF, Nat.zero_add, Nat.add_zero, not_true_eq_false, not_false_eq_true, true_and, and_true, false_and, and_false, or_true, true_or, or_false, false_or, Nat.reduceEqDiff, Nat.reduceLeDiff, Nat.reduceLT, Nat.reduceAdd, Nat.reduceSub, Nat.reduceMul, Nat.reduceDiv, Nat.reduceMod, ↓reduceIte, q, fI_s]
        · simp (disch := omega) only [lt_eq, bi_some, bv_some, ↓lim1, pk_m1f, fI_add1, li0, li1, li2, li3, li4, li5, li6, li7, li8, li9, li10, li12, li15, li16, li19, li20, li26, li30, li31, li32, li48, li57, li59, li60, li64, li99, li100, li128, li240, li255, li480, li999, li1000, li9000, li9999, liF, nI_add, sb_nI, pk_mul, dv_nI, cl_nI, inbT, le_nI, lt_nI, eq_nI, fI_le, fI_eq, st_ne, st_at, iT, iF, Nat.zero_add, Nat.add_zero, not_true_eq_false, not_false_eq_true, true_and, and_true, false_and, and_false, or_true, true_or, or_false, false_or, Nat.reduceEqDiff, Nat.reduceLeDiff, Nat.reduceLT, Nat.reduceAdd, Nat.reduceSub, Nat.reduceMul, Nat.reduceDiv, Nat.reduceMod, ↓reduceIte, show ¬ 100 ≤ lev by omega, q, mSumAt h g (show lev + 1 ≤ 100 by omega) (Nat.zero_le _) rfl]
          exact ih (lev + 1) fu (by omega) (by omega)
  unfold fX12_levelOf
  have e0 : sma (a 0 3) (a 4) 0 0 = 0 := by
    have := fo_inv (fun i s => s = 0) (f := fun v s => s + (if 0 ≤ a 4 (26 + v) then 0 else a 4 (26 + v))) (a 0 3 - 0) 0 0 rfl (by
      intro j s h1 h2 h3
      show s + (if 0 ≤ a 4 (26 + j) then 0 else a 4 (26 + j)) = 0
      rw [if_pos (Nat.zero_le _)]; omega)
    exact this
  have := key 100 0 FU rfl (by have := FU_ge; omega)
  rw [e0] at this
  rw [li0]
  exact this
theorem sub_nn {x y : Nat} (hx : x < 1000000) (hy : y < 1000000) : (nI 0 ≤ nI x - nI y) = (y ≤ x) := by
  apply propext
  rw [Int32.le_iff_toInt_le, pk_sub_toInt (by omega) (by omega), nI_toInt (by omega)]
  omega
/-- what village k has of v, no more than lev for any -/
def shr (V : Nat) (w : Nat → Nat) (lev v k : Nat) : Nat := (fo (fun u (s : Nat × Nat) => (s.1 - (s.1 - sma V w lev (u + 1)), s.1 - sma V w lev (u + 1))) (k + 1) 0 (v, 0)).2
theorem mShr {a : Ab} {σ : Sg} (h : RelM a σ) (g : Gb a) {v k lev : Nat} (hv : v ≤ 999) (hk : k < a 0 3) (hl : lev ≤ 100) : fX12_shares_48 FU (fun σ_13 x5_13 => some (x5_13, σ_13)) σ (nI k) (nI lev) (nI v) 0 0 = some (nI (shr (a 0 3) (a 4) lev v k), σ) := by
  have hV := gb_V g
  rw [li0]
  refine (loop0 (fun n i (s : Nat × Nat) => fX12_shares_48 n (fun σ_13 x5_13 => some (x5_13, σ_13)) σ (nI k) (nI lev) (nI s.1) (nI s.2) (nI i)) (k + 1) (by omega) (fun s => some (nI s.2, σ)) (fun i s => s.1 ≤ 999) _ ?_ ?_ ?_ (v, 0) hv).1
  · intro n s hs
    simp only [fX12_shares_48_s]
    unfold fX12_shares_48b
    simp (disch := omega) only [lt_eq, bi_some, bv_some, ↓lim1, pk_m1f, fI_add1, li0, li1, li2, li3, li4, li5, li6, li7, li8, li9, li10, li12, li15, li16, li19, li20, li26, li30, li31, li32, li48, li57, li59, li60, li64, li99, li100, li128, li240, li255, li480, li999, li1000, li9000, li9999, liF, nI_add, sb_nI, pk_mul, dv_nI, cl_nI, inbT, le_nI, lt_nI, eq_nI, fI_le, fI_eq, st_ne, st_at, iT, iF, Nat.zero_add, Nat.add_zero, not_true_eq_false, not_false_eq_true, true_and, and_true, false_and, and_false, or_true, true_or, or_false, false_or, Nat.reduceEqDiff, Nat.reduceLeDiff, Nat.reduceLT, Nat.reduceAdd, Nat.reduceSub, Nat.reduceMul, Nat.reduceDiv, Nat.reduceMod, ↓reduceIte, show k < k + 1 by omega]
  · intro n i s hi hs
    have hsm := sma_le hV (fun u hu => wc_bear (gb_w g) hu) lev (i + 1)
    simp only [fX12_shares_48_s]
    unfold fX12_shares_48b fX12_shares_77
    simp (disch := omega) only [lt_eq, bi_some, bv_some, ↓lim1, pk_m1f, fI_add1, li0, li1, li2, li3, li4, li5, li6, li7, li8, li9, li10, li12, li15, li16, li19, li20, li26, li30, li31, li32, li48, li57, li59, li60, li64, li99, li100, li128, li240, li255, li480, li999, li1000, li9000, li9999, liF, nI_add, sb_nI, pk_mul, dv_nI, cl_nI, inbT, le_nI, lt_nI, eq_nI, fI_le, fI_eq, st_ne, st_at, iT, iF, Nat.zero_add, Nat.add_zero, not_true_eq_false, not_false_eq_true, true_and, and_true, false_and, and_false, or_true, true_or, or_false, false_or, Nat.reduceEqDiff, Nat.reduceLeDiff, Nat.reduceLT, Nat.reduceAdd, Nat.reduceSub, Nat.reduceMul, Nat.reduceDiv, Nat.reduceMod, ↓reduceIte, show ¬ k < i by omega, mSumAt h g hl (show i + 1 ≤ a 0 3 by omega) (fI_s i).symm]
    simp (disch := omega) only [lt_eq, bi_some, bv_some, ↓lim1, pk_m1f, fI_add1, li0, li1, li2, li3, li4, li5, li6, li7, li8, li9, li10, li12, li15, li16, li19, li20, li26, li30, li31, li32, li48, li57, li59, li60, li64, li99, li100, li128, li240, li255, li480, li999, li1000, li9000, li9999, liF, nI_add, sb_nI, pk_mul, dv_nI, cl_nI, inbT, le_nI, lt_nI, eq_nI, fI_le, fI_eq, st_ne, st_at, iT, iF, Nat.zero_add, Nat.add_zero, not_true_eq_false, not_false_eq_true, true_and, and_true, false_and, and_false, or_true, true_or, or_false, false_or, Nat.reduceEqDiff, Nat.reduceLeDiff, Nat.reduceLT, Nat.reduceAdd, Nat.reduceSub, Nat.reduceMul, Nat.reduceDiv, Nat.reduceMod, ↓reduceIte, sub_nn]
    by_cases q : sma (a 0 3) (a 4) lev (i + 1) ≤ s.1
    · simp (disch := omega) only [lt_eq, bi_some, bv_some, ↓lim1, pk_m1f, fI_add1, li0, li1, li2, li3, li4, li5, li6, li7, li8, li9, li10, li12, li15, li16, li19, li20, li26, li30, li31, li32, li48, li57, li59, li60, li64, li99, li100, li128, li240, li255, li480, li999, li1000, li9000, li9999, liF, nI_add, sb_nI, pk_mul, dv_nI, cl_nI, inbT, le_nI, lt_nI, eq_nI, fI_le, fI_eq, st_ne, st_at, iT, iF, Nat.zero_add, Nat.add_zero, not_true_eq_false, not_false_eq_true, true_and, and_true, false_and, and_false, or_true, true_or, or_false, false_or, Nat.reduceEqDiff, Nat.reduceLeDiff, Nat.reduceLT, Nat.reduceAdd, Nat.reduceSub, Nat.reduceMul, Nat.reduceDiv, Nat.reduceMod, ↓reduceIte, q]
    · simp (disch := omega) only [lt_eq, bi_some, bv_some, ↓lim1, pk_m1f, fI_add1, li0, li1, li2, li3, li4, li5, li6, li7, li8, li9, li10, li12, li15, li16, li19, li20, li26, li30, li31, li32, li48, li57, li59, li60, li64, li99, li100, li128, li240, li255, li480, li999, li1000, li9000, li9999, liF, nI_add, sb_nI, pk_mul, dv_nI, cl_nI, inbT, le_nI, lt_nI, eq_nI, fI_le, fI_eq, st_ne, st_at, iT, iF, Nat.zero_add, Nat.add_zero, not_true_eq_false, not_false_eq_true, true_and, and_true, false_and, and_false, or_true, true_or, or_false, false_or, Nat.reduceEqDiff, Nat.reduceLeDiff, Nat.reduceLT, Nat.reduceAdd, Nat.reduceSub, Nat.reduceMul, Nat.reduceDiv, Nat.reduceMod, ↓reduceIte, q, show s.1 - sma (a 0 3) (a 4) lev (i + 1) = 0 by omega, Nat.sub_zero]
  · intro i s hi hs
    show s.1 - (s.1 - sma (a 0 3) (a 4) lev (i + 1)) ≤ 999
    omega
/-- odds -/
def odd (q : Int32) (n : Nat) : Int64 := fo (fun _ z => z * q.toInt64 / 100) n 0 1000000000
theorem mDry (σ : Sg) {n : Nat} (hn : n ≤ 60) (q : Int32) : fX12_dry_34 FU (fun σ_8 x3_8 => some (x3_8.toInt32, σ_8)) σ (nI n) q 1000000000 0 = some ((odd q n).toInt32, σ) := by
  rw [li0]
  refine (loop0 (fun m i z => fX12_dry_34 m (fun σ_8 x3_8 => some (x3_8.toInt32, σ_8)) σ (nI n) q z (nI i)) n (by omega) (fun z => some (z.toInt32, σ)) (fun _ _ => True) (fun _ z => z * q.toInt64 / 100) ?_ ?_ (fun _ _ _ _ => trivial) 1000000000 trivial).1
  · intro m z _
    simp only [fX12_dry_34_s]
    unfold fX12_dry_34b
    simp (disch := omega) only [lt_eq, bi_some, bv_some, ↓lim1, pk_m1f, fI_add1, li0, li1, li2, li3, li4, li5, li6, li7, li8, li9, li10, li12, li15, li16, li19, li20, li26, li30, li31, li32, li48, li57, li59, li60, li64, li99, li100, li128, li240, li255, li480, li999, li1000, li9000, li9999, liF, nI_add, sb_nI, pk_mul, dv_nI, cl_nI, inbT, le_nI, lt_nI, eq_nI, fI_le, fI_eq, st_ne, st_at, iT, iF, Nat.zero_add, Nat.add_zero, not_true_eq_false, not_false_eq_true, true_and, and_true, false_and, and_false, or_true, true_or, or_false, false_or, Nat.reduceEqDiff, Nat.reduceLeDiff, Nat.reduceLT, Nat.reduceAdd, Nat.reduceSub, Nat.reduceMul, Nat.reduceDiv, Nat.reduceMod, ↓reduceIte, Nat.le_refl]
  · intro m i z hi _
    simp only [fX12_dry_34_s]
    unfold fX12_dry_34b
    simp (disch := omega) only [lt_eq, bi_some, bv_some, ↓lim1, pk_m1f, fI_add1, li0, li1, li2, li3, li4, li5, li6, li7, li8, li9, li10, li12, li15, li16, li19, li20, li26, li30, li31, li32, li48, li57, li59, li60, li64, li99, li100, li128, li240, li255, li480, li999, li1000, li9000, li9999, liF, nI_add, sb_nI, pk_mul, dv_nI, cl_nI, inbT, le_nI, lt_nI, eq_nI, fI_le, fI_eq, st_ne, st_at, iT, iF, Nat.zero_add, Nat.add_zero, not_true_eq_false, not_false_eq_true, true_and, and_true, false_and, and_false, or_true, true_or, or_false, false_or, Nat.reduceEqDiff, Nat.reduceLeDiff, Nat.reduceLT, Nat.reduceAdd, Nat.reduceSub, Nat.reduceMul, Nat.reduceDiv, Nat.reduceMod, ↓reduceIte, show ¬ n ≤ i by omega]
