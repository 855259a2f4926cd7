/-! the class: best, worst, shares -/
theorem cBest {a : Ab} {h : Nat} {σ : Sg} (x : Cs a h (a 4) σ) (g : Gb a) {m : Nat} (hm : m ≤ 99) : ∃ u v, fX2_bestFor σ (nI m) = some (fI (bst a m), bs σ u v) := by
  have hP := gb_P g
  have hs3 := (wc_set (gb_w g) hP).1
  have key := (loop0 (fun n i (s : (Nat × Nat) × Int32 × Int32) => fX2_bestFor_8 n (fun σ_9 x2_9 => some (x2_9, σ_9)) (bs σ s.2.1 s.2.2) (nI m) (fI s.1.1) (nI s.1.2) (nI i)) (a 0 4) (by omega) (fun s => some (fI s.1.1, bs σ s.2.1 s.2.2)) (fun i s => s.1.2 ≤ 100) (fun p s => if bt (a 4 3) p = 0 then ((if (brg a p m).1 < s.1.2 then (p + 1, (brg a p m).1) else s.1), (nI (brg a p m).1, nI (brg a p m).2)) else s) ?_ ?_ ?_ ((0, 100), (σ 16 0, σ 16 1)) (Nat.le_refl _)).1
  · unfold fX2_bestFor
    rw [lt_eq]
    rw [bs_self] at key
    have := fo_rel (fun i (s : (Nat × Nat) × Int32 × Int32) (t : Nat × Nat) => s.1.1 = t.1 ∧ (s.1.2 = t.2 ∨ (s.1.2 = 100 ∧ t.2 = 100000000))) (f := fun p (s : (Nat × Nat) × Int32 × Int32) => if bt (a 4 3) p = 0 then ((if (brg a p m).1 < s.1.2 then (p + 1, (brg a p m).1) else s.1), (nI (brg a p m).1, nI (brg a p m).2)) else s) (g := fun p (s : Nat × Nat) => if bt (a 4 3) p = 0 then (if (brg a p m).1 < s.2 then (p + 1, (brg a p m).1) else s) else s) (a 0 4) 0 ((0, 100), (σ 16 0, σ 16 1)) (0, 100000000) ⟨rfl, Or.inr ⟨rfl, rfl⟩⟩ (by
      intro j s t h1 h2 ⟨h3, h4⟩
      have hb := (brg_le g (p := j) hm).1
      by_cases q : bt (a 4 3) j = 0
      · simp only [if_pos q]
        by_cases z : (brg a j m).1 < s.1.2
        · rw [if_pos z, if_pos (by omega)]
          exact ⟨rfl, Or.inl rfl⟩
        · rw [if_neg z, if_neg (by omega)]
          exact ⟨h3, h4⟩
      · simp only [if_neg q]
        exact ⟨h3, h4⟩)
    have e := this.1
    rw [show (fo (fun p (s : Nat × Nat) => if bt (a 4 3) p = 0 then (if (brg a p m).1 < s.2 then (p + 1, (brg a p m).1) else s) else s) (a 0 4) 0 (0, 100000000)).1 = bst a m from rfl] at e
    rw [e] at key
    exact ⟨_, _, key⟩
  · intro n s hs
    simp only [fX2_bestFor_8_s]
    unfold fX2_bestFor_8b
    rw [hl_gk (x.1.bs s.2.1 s.2.2), hl_P (x.1.bs s.2.1 s.2.2)]
    simp (disch := omega) only [lt_eq, bi_some, bv_some, ↓lim1, pk_m1f, fI_add1, li0, li1, li2, li3, li4, li5, li6, li7, li8, li9, li10, li12, li15, li16, li19, li20, li26, li30, li31, li32, li48, li57, li59, li60, li64, li99, li100, li128, li240, li255, li480, li999, li1000, li9000, li9999, liF, nI_add, sb_nI, pk_mul, dv_nI, cl_nI, inbT, le_nI, lt_nI, eq_nI, fI_le, fI_eq, st_ne, st_at, iT, iF, Nat.zero_add, Nat.add_zero, not_true_eq_false, not_false_eq_true, true_and, and_true, false_and, and_false, or_true, true_or, or_false, false_or, Nat.reduceEqDiff, Nat.reduceLeDiff, Nat.reduceLT, Nat.reduceAdd, Nat.reduceSub, Nat.reduceMul, Nat.reduceDiv, Nat.reduceMod, ↓reduceIte, Nat.le_refl]
  · intro n i s hi hs
    have x2 := x.bs s.2.1 s.2.2
    have hb := (brg_le g (p := i) hm).1
    simp only [fX2_bestFor_8_s]
    unfold fX2_bestFor_8b
    rw [hl_gk x2.1, hl_P x2.1]
    simp (disch := omega) only [lt_eq, bi_some, bv_some, ↓lim1, pk_m1f, fI_add1, li0, li1, li2, li3, li4, li5, li6, li7, li8, li9, li10, li12, li15, li16, li19, li20, li26, li30, li31, li32, li48, li57, li59, li60, li64, li99, li100, li128, li240, li255, li480, li999, li1000, li9000, li9999, liF, nI_add, sb_nI, pk_mul, dv_nI, cl_nI, inbT, le_nI, lt_nI, eq_nI, fI_le, fI_eq, st_ne, st_at, iT, iF, Nat.zero_add, Nat.add_zero, not_true_eq_false, not_false_eq_true, true_and, and_true, false_and, and_false, or_true, true_or, or_false, false_or, Nat.reduceEqDiff, Nat.reduceLeDiff, Nat.reduceLT, Nat.reduceAdd, Nat.reduceSub, Nat.reduceMul, Nat.reduceDiv, Nat.reduceMod, ↓reduceIte, show ¬ a 0 4 ≤ i by omega, cGoUp x2 hs3 (show i < 7 by omega)]
    unfold fX2_bestFor_53
    rcases bt_01 (a 4 3) i with q | q
    · rw [q]
      simp (disch := omega) only [lt_eq, bi_some, bv_some, ↓lim1, pk_m1f, fI_add1, li0, li1, li2, li3, li4, li5, li6, li7, li8, li9, li10, li12, li15, li16, li19, li20, li26, li30, li31, li32, li48, li57, li59, li60, li64, li99, li100, li128, li240, li255, li480, li999, li1000, li9000, li9999, liF, nI_add, sb_nI, pk_mul, dv_nI, cl_nI, inbT, le_nI, lt_nI, eq_nI, fI_le, fI_eq, st_ne, st_at, iT, iF, Nat.zero_add, Nat.add_zero, not_true_eq_false, not_false_eq_true, true_and, and_true, false_and, and_false, or_true, true_or, or_false, false_or, Nat.reduceEqDiff, Nat.reduceLeDiff, Nat.reduceLT, Nat.reduceAdd, Nat.reduceSub, Nat.reduceMul, Nat.reduceDiv, Nat.reduceMod, ↓reduceIte, cLeft x2 g hi hm, bs_bs]
      by_cases z : (brg a i m).1 < s.1.2
      · simp (disch := omega) only [lt_eq, bi_some, bv_some, ↓lim1, pk_m1f, fI_add1, li0, li1, li2, li3, li4, li5, li6, li7, li8, li9, li10, li12, li15, li16, li19, li20, li26, li30, li31, li32, li48, li57, li59, li60, li64, li99, li100, li128, li240, li255, li480, li999, li1000, li9000, li9999, liF, nI_add, sb_nI, pk_mul, dv_nI, cl_nI, inbT, le_nI, lt_nI, eq_nI, fI_le, fI_eq, st_ne, st_at, iT, iF, Nat.zero_add, Nat.add_zero, not_true_eq_false, not_false_eq_true, true_and, and_true, false_and, and_false, or_true, true_or, or_false, false_or, Nat.reduceEqDiff, Nat.reduceLeDiff, Nat.reduceLT, Nat.reduceAdd, Nat.reduceSub, Nat.reduceMul, Nat.reduceDiv, Nat.reduceMod, ↓reduceIte, show ¬ s.1.2 ≤ (brg a i m).1 by omega, z, fI_s]
      · simp (disch := omega) only [lt_eq, bi_some, bv_some, ↓lim1, pk_m1f, fI_add1, li0, li1, li2, li3, li4, li5, li6, li7, li8, li9, li10, li12, li15, li16, li19, li20, li26, li30, li31, li32, li48, li57, li59, li60, li64, li99, li100, li128, li240, li255, li480, li999, li1000, li9000, li9999, liF, nI_add, sb_nI, pk_mul, dv_nI, cl_nI, inbT, le_nI, lt_nI, eq_nI, fI_le, fI_eq, st_ne, st_at, iT, iF, Nat.zero_add, Nat.add_zero, not_true_eq_false, not_false_eq_true, true_and, and_true, false_and, and_false, or_true, true_or, or_false, false_or, Nat.reduceEqDiff, Nat.reduceLeDiff, Nat.reduceLT, Nat.reduceAdd, Nat.reduceSub, Nat.reduceMul, Nat.reduceDiv, Nat.reduceMod, ↓reduceIte, show s.1.2 ≤ (brg a i m).1 by omega, z]
    · rw [q]
      simp (disch := omega) only [lt_eq, bi_some, bv_some, ↓lim1, pk_m1f, fI_add1, li0, li1, li2, li3, li4, li5, li6, li7, li8, li9, li10, li12, li15, li16, li19, li20, li26, li30, li31, li32, li48, li57, li59, li60, li64, li99, li100, li128, li240, li255, li480, li999, li1000, li9000, li9999, liF, nI_add, sb_nI, pk_mul, dv_nI, cl_nI, inbT, le_nI, lt_nI, eq_nI, fI_le, fI_eq, st_ne, st_at, iT, iF, Nat.zero_add, Nat.add_zero, not_true_eq_false, not_false_eq_true, true_and, and_true, false_and, and_false, or_true, true_or, or_false, false_or, Nat.reduceEqDiff, Nat.reduceLeDiff, Nat.reduceLT, Nat.reduceAdd, Nat.reduceSub, Nat.reduceMul, Nat.reduceDiv, Nat.reduceMod, ↓reduceIte, Nat.sub_self]
  · intro i s hi hs
    have hb := (brg_le g (p := i) hm).1
    by_cases q : bt (a 4 3) i = 0
    · rw [if_pos q]
      by_cases z : (brg a i m).1 < s.1.2
      · rw [if_pos z]; show (brg a i m).1 ≤ 100; omega
      · rw [if_neg z]; exact hs
    · rw [if_neg q]; exact hs
theorem cWorst {a : Ab} {h : Nat} {w : Nat → Nat} {σ : Sg} (x : Cs a h w σ) (g : Gb a) (hw : Wc (a 0 1) (a 0 3) (a 0 4) w) : fX2_worst σ = some (fI (wst (a 0 4) w), σ) := by
  have hP := gb_P g
  unfold fX2_worst
  simp (disch := omega) only [lt_eq, bi_some, bv_some, ↓lim1, pk_m1f, fI_add1, li0, li1, li2, li3, li4, li5, li6, li7, li8, li9, li10, li12, li15, li16, li19, li20, li26, li30, li31, li32, li48, li57, li59, li60, li64, li99, li100, li128, li240, li255, li480, li999, li1000, li9000, li9999, liF, nI_add, sb_nI, pk_mul, dv_nI, cl_nI, inbT, le_nI, lt_nI, eq_nI, fI_le, fI_eq, st_ne, st_at, iT, iF, Nat.zero_add, Nat.add_zero, not_true_eq_false, not_false_eq_true, true_and, and_true, false_and, and_false, or_true, true_or, or_false, false_or, Nat.reduceEqDiff, Nat.reduceLeDiff, Nat.reduceLT, Nat.reduceAdd, Nat.reduceSub, Nat.reduceMul, Nat.reduceDiv, Nat.reduceMod, ↓reduceIte]
  refine (loop0 (fun n i (s : Nat × Nat) => fX2_worst_6 n (fun σ_10 x1_10 => some (x1_10, σ_10)) σ (fI s.1) (fI s.2) (nI i)) (a 0 4) (by omega) (fun s => some (fI s.1, σ)) (fun i s => s.2 ≤ 10000) (fun p (s : Nat × Nat) => if s.2 ≤ w (19 + p) then (p + 1, w (19 + p) + 1) else s) ?_ ?_ ?_ (0, 0) (by show 0 ≤ 10000; omega)).1
  · intro n s hs
    simp only [fX2_worst_6_s]
    unfold fX2_worst_6b
    rw [hl_gk x.1, hl_P x.1]
    simp (disch := omega) only [lt_eq, bi_some, bv_some, ↓lim1, pk_m1f, fI_add1, li0, li1, li2, li3, li4, li5, li6, li7, li8, li9, li10, li12, li15, li16, li19, li20, li26, li30, li31, li32, li48, li57, li59, li60, li64, li99, li100, li128, li240, li255, li480, li999, li1000, li9000, li9999, liF, nI_add, sb_nI, pk_mul, dv_nI, cl_nI, inbT, le_nI, lt_nI, eq_nI, fI_le, fI_eq, st_ne, st_at, iT, iF, Nat.zero_add, Nat.add_zero, not_true_eq_false, not_false_eq_true, true_and, and_true, false_and, and_false, or_true, true_or, or_false, false_or, Nat.reduceEqDiff, Nat.reduceLeDiff, Nat.reduceLT, Nat.reduceAdd, Nat.reduceSub, Nat.reduceMul, Nat.reduceDiv, Nat.reduceMod, ↓reduceIte, Nat.le_refl]
  · intro n i s hi hs
    have hh := wc_harm hw hi
    simp only [fX2_worst_6_s]
    unfold fX2_worst_6b fX2_worst_42
    rw [hl_gk x.1, hl_P x.1]
    simp (disch := omega) only [lt_eq, bi_some, bv_some, ↓lim1, pk_m1f, fI_add1, li0, li1, li2, li3, li4, li5, li6, li7, li8, li9, li10, li12, li15, li16, li19, li20, li26, li30, li31, li32, li48, li57, li59, li60, li64, li99, li100, li128, li240, li255, li480, li999, li1000, li9000, li9999, liF, nI_add, sb_nI, pk_mul, dv_nI, cl_nI, inbT, le_nI, lt_nI, eq_nI, fI_le, fI_eq, st_ne, st_at, iT, iF, Nat.zero_add, Nat.add_zero, not_true_eq_false, not_false_eq_true, true_and, and_true, false_and, and_false, or_true, true_or, or_false, false_or, Nat.reduceEqDiff, Nat.reduceLeDiff, Nat.reduceLT, Nat.reduceAdd, Nat.reduceSub, Nat.reduceMul, Nat.reduceDiv, Nat.reduceMod, ↓reduceIte, show ¬ a 0 4 ≤ i by omega, cs_harm x hi]
    by_cases q : s.2 ≤ w (19 + i)
    · rw [if_neg (by omega), if_pos q, fI_s, fI_s]
    · rw [if_pos (by omega), if_neg q]
  · intro i s hi hs
    have hh := wc_harm hw hi
    show (if s.2 ≤ w (19 + i) then (i + 1, w (19 + i) + 1) else s).2 ≤ 10000
    split
    · show w (19 + i) + 1 ≤ 10000; omega
    · exact hs
theorem cHarmIn {a : Ab} {h : Nat} {w : Nat → Nat} {σ : Sg} (x : Cs a h w σ) (g : Gb a) (hw : Wc (a 0 1) (a 0 3) (a 0 4) w) {v : Nat} (hv : v ≤ 4) : fX2_harmIn σ (nI v) = some (nI (hof (a 0 4) (a 2) w v), σ) := by
  have hP := gb_P g
  have hV := gb_V g
  unfold fX2_harmIn
  rw [li0]
  refine (loop0 (fun n i s => fX2_harmIn_4 n (fun σ_9 x2_9 => some (x2_9, σ_9)) σ (nI v) (nI s) (nI i)) (a 0 4) (by omega) (fun s => some (nI s, σ)) (fun i s => s ≤ 9999 * i) (fun p s => s + (if a 2 p = v then w (19 + p) else 0)) ?_ ?_ ?_ 0 (by omega)).1
  · intro n s hs
    simp only [fX2_harmIn_4_s]
    unfold fX2_harmIn_4b
    rw [hl_gk x.1, hl_P x.1]
    simp (disch := omega) only [lt_eq, bi_some, bv_some, ↓lim1, pk_m1f, fI_add1, li0, li1, li2, li3, li4, li5, li6, li7, li8, li9, li10, li12, li15, li16, li19, li20, li26, li30, li31, li32, li48, li57, li59, li60, li64, li99, li100, li128, li240, li255, li480, li999, li1000, li9000, li9999, liF, nI_add, sb_nI, pk_mul, dv_nI, cl_nI, inbT, le_nI, lt_nI, eq_nI, fI_le, fI_eq, st_ne, st_at, iT, iF, Nat.zero_add, Nat.add_zero, not_true_eq_false, not_false_eq_true, true_and, and_true, false_and, and_false, or_true, true_or, or_false, false_or, Nat.reduceEqDiff, Nat.reduceLeDiff, Nat.reduceLT, Nat.reduceAdd, Nat.reduceSub, Nat.reduceMul, Nat.reduceDiv, Nat.reduceMod, ↓reduceIte, Nat.le_refl]
  · intro n i s hi hs
    have hh := wc_harm hw hi
    have hm := gb_home g hi
    simp only [fX2_harmIn_4_s]
    unfold fX2_harmIn_4b fX2_harmIn_40
    rw [hl_gk x.1, hl_gk x.1, hl_P x.1]
    simp (disch := omega) only [lt_eq, bi_some, bv_some, ↓lim1, pk_m1f, fI_add1, li0, li1, li2, li3, li4, li5, li6, li7, li8, li9, li10, li12, li15, li16, li19, li20, li26, li30, li31, li32, li48, li57, li59, li60, li64, li99, li100, li128, li240, li255, li480, li999, li1000, li9000, li9999, liF, nI_add, sb_nI, pk_mul, dv_nI, cl_nI, inbT, le_nI, lt_nI, eq_nI, fI_le, fI_eq, st_ne, st_at, iT, iF, Nat.zero_add, Nat.add_zero, not_true_eq_false, not_false_eq_true, true_and, and_true, false_and, and_false, or_true, true_or, or_false, false_or, Nat.reduceEqDiff, Nat.reduceLeDiff, Nat.reduceLT, Nat.reduceAdd, Nat.reduceSub, Nat.reduceMul, Nat.reduceDiv, Nat.reduceMod, ↓reduceIte, show ¬ a 0 4 ≤ i by omega, hl_home x.1 hi, cs_harm x hi]
    by_cases q : a 2 i = v
    · rw [if_pos q, if_pos q]
    · rw [if_neg q, if_neg q]; rfl
  · intro i s hi hs
    have hh := wc_harm hw hi
    show s + (if a 2 i = v then w (19 + i) else 0) ≤ 9999 * (i + 1)
    split <;> omega
theorem cRoom {a : Ab} {h : Nat} {w : Nat → Nat} {σ : Sg} (x : Cs a h w σ) (g : Gb a) (hw : Wc (a 0 1) (a 0 3) (a 0 4) w) {lev f : Nat} (hl : lev ≤ 100) (hf : f ≤ a 0 3) : fX2_roomFrom σ (nI f) (nI lev) = some (nI (sma (a 0 3) w lev f), σ) := by
  have hV := gb_V g
  unfold fX2_roomFrom
  rw [li0]
  refine (loopN (fun n i s => fX2_roomFrom_5 n (fun σ_6 x3_6 => some (x3_6, σ_6)) σ (nI lev) (nI s) (nI i)) (a 0 3) (fun s => some (nI s, σ)) (fun i s => s ≤ 100 * i) (fun v s => s + (if lev ≤ w (26 + v) then lev else w (26 + v))) ?_ ?_ ?_ (a 0 3 - f) f FU 0 (by omega) (by have := FU_ge; omega) (by omega)).1
  · intro n s hs
    simp only [fX2_roomFrom_5_s]
    unfold fX2_roomFrom_5b
    rw [hl_gk x.1, hl_V x.1]
    simp (disch := omega) only [lt_eq, bi_some, bv_some, ↓lim1, pk_m1f, fI_add1, li0, li1, li2, li3, li4, li5, li6, li7, li8, li9, li10, li12, li15, li16, li19, li20, li26, li30, li31, li32, li48, li57, li59, li60, li64, li99, li100, li128, li240, li255, li480, li999, li1000, li9000, li9999, liF, nI_add, sb_nI, pk_mul, dv_nI, cl_nI, inbT, le_nI, lt_nI, eq_nI, fI_le, fI_eq, st_ne, st_at, iT, iF, Nat.zero_add, Nat.add_zero, not_true_eq_false, not_false_eq_true, true_and, and_true, false_and, and_false, or_true, true_or, or_false, false_or, Nat.reduceEqDiff, Nat.reduceLeDiff, Nat.reduceLT, Nat.reduceAdd, Nat.reduceSub, Nat.reduceMul, Nat.reduceDiv, Nat.reduceMod, ↓reduceIte, Nat.le_refl]
  · intro n i s hi hs
    have hb := wc_bear hw hi
    have em : (if w (26 + i) ≤ lev then w (26 + i) else lev) = (if lev ≤ w (26 + i) then lev else w (26 + i)) := by split <;> split <;> omega
    simp only [fX2_roomFrom_5_s]
    unfold fX2_roomFrom_5b
    have ec : (nI i).toNatClampNeg = i := cl_nI (by omega)
    rw [hl_gk x.1, hl_V x.1]
    simp only [ec, cs_bear x hi]
    rw [mn_nI (by omega) (by omega), em]
    simp (disch := omega) only [lt_eq, bi_some, bv_some, ↓lim1, pk_m1f, fI_add1, li0, li1, li2, li3, li4, li5, li6, li7, li8, li9, li10, li12, li15, li16, li19, li20, li26, li30, li31, li32, li48, li57, li59, li60, li64, li99, li100, li128, li240, li255, li480, li999, li1000, li9000, li9999, liF, nI_add, sb_nI, pk_mul, dv_nI, cl_nI, inbT, le_nI, lt_nI, eq_nI, fI_le, fI_eq, st_ne, st_at, iT, iF, Nat.zero_add, Nat.add_zero, not_true_eq_false, not_false_eq_true, true_and, and_true, false_and, and_false, or_true, true_or, or_false, false_or, Nat.reduceEqDiff, Nat.reduceLeDiff, Nat.reduceLT, Nat.reduceAdd, Nat.reduceSub, Nat.reduceMul, Nat.reduceDiv, Nat.reduceMod, ↓reduceIte, show ¬ a 0 3 ≤ i by omega]
  · intro i s hi hs
    have hb := wc_bear hw hi
    show s + (if lev ≤ w (26 + i) then lev else w (26 + i)) ≤ 100 * (i + 1)
    split <;> omega
theorem sma_99 {V : Nat} {w : Nat → Nat} (hb : ∀ v, v < V → w (26 + v) ≤ 99) : sma V w 100 0 = sma V w 99 0 := by
  unfold sma
  refine fo_congr _ _ _ (fun j b h1 h2 => ?_)
  have := hb j (by omega)
  congr 1
  split <;> split <;> omega
theorem cLeast {a : Ab} {h : Nat} {w : Nat → Nat} {σ : Sg} (x : Cs a h w σ) (g : Gb a) (hw : Wc (a 0 1) (a 0 3) (a 0 4) w) {v : Nat} (hv : v ≤ 999) : fX2_leastCeiling σ (nI v) = some (fI (lvl (fun lev => sma (a 0 3) w lev 0) v 100 0), σ) := by
  have hV := gb_V g
  have hs : ∀ lev, sma (a 0 3) w lev 0 ≤ 396 := fun lev => Nat.le_trans (sma_le hV (fun u hu => wc_bear hw hu) lev 0) (by omega)
  have key : ∀ (d lev fu : Nat), lev + d = 100 → d < fu → (d = 0 → ¬ v ≤ sma (a 0 3) w 99 0) → fX2_leastCeiling_2 fu (fun σ_5 => some ((-1), σ_5)) σ (nI v) (nI lev) = some (fI (lvl (fun lev => sma (a 0 3) w lev 0) v d lev), σ) := by
    intro d
    induction d with
    | zero =>
      intro lev fu h1 h2 h3
      cases fu with
      | zero => omega
      | succ fu =>
        have e : lev = 100 := by omega
        have q := h3 rfl
        rw [fX2_leastCeiling_2_s]
        unfold fX2_leastCeiling_2b lvl
        rw [if_pos (show (99 : Int32) < nI lev by rw [li99, lt_nI (by omega) (by omega)]; omega), e, if_neg (show ¬ v ≤ sma (a 0 3) w 100 0 by rw [sma_99 (fun u hu => wc_bear hw hu)]; exact q)]
        rfl
    | succ d ih =>
      intro lev fu h1 h2 _
      cases fu with
      | zero => omega
      | succ fu =>
        have := hs lev
        rw [fX2_leastCeiling_2_s]
        unfold fX2_leastCeiling_2b lvl
        simp (disch := omega) only [lt_eq, bi_some, bv_some, ↓lim1, pk_m1f, fI_add1, li0, li1, li2, li3, li4, li5, li6, li7, li8, li9, li10, li12, li15, li16, li19, li20, li26, li30, li31, li32, li48, li57, li59, li60, li64, li99, li100, li128, li240, li255, li480, li999, li1000, li9000, li9999, liF, nI_add, sb_nI, pk_mul, dv_nI, cl_nI, inbT, le_nI, lt_nI, eq_nI, fI_le, fI_eq, st_ne, st_at, iT, iF, Nat.zero_add, Nat.add_zero, not_true_eq_false, not_false_eq_true, true_and, and_true, false_and, and_false, or_true, true_or, or_false, false_or, Nat.reduceEqDiff, Nat.reduceLeDiff, Nat.reduceLT, Nat.reduceAdd, Nat.reduceSub, Nat.reduceMul, Nat.reduceDiv, Nat.reduceMod, ↓reduceIte, show ¬ 99 < lev by omega, cRoom x g hw (show lev ≤ 100 by omega) (Nat.zero_le _)]
        by_cases q : v ≤ sma (a 0 3) w lev 0
        · rw [if_neg (by omega), if_pos q, fI_s]
        · rw [if_pos (by omega), if_neg q]
          exact ih (lev + 1) fu (by omega) (by omega) (fun c => by
            have : lev = 99 := by omega
            rw [← this]; exact q)
  unfold fX2_leastCeiling
  exact key 100 0 FU rfl (by have := FU_ge; omega) (fun c => by omega)
theorem cAhead {a : Ab} {h : Nat} {w : Nat → Nat} {σ : Sg} (x : Cs a h w σ) (g : Gb a) (hw : Wc (a 0 1) (a 0 3) (a 0 4) w) {o u lev : Nat} (ho : o ≤ 999) (hu : u < a 0 3) (hl : lev ≤ 100) : fX2_shareAhead σ (nI o) (nI u) (nI lev) = some (nI (o - sma (a 0 3) w lev (u + 1)), σ) := by
  have hV := gb_V g
  have hsm := sma_le hV (fun u hu => wc_bear hw hu) lev (u + 1)
  unfold fX2_shareAhead
  rw [li1, nI_add, cRoom x g hw hl (by omega), bi_some, mx0' (by omega) (by omega)]
theorem cShare {a : Ab} {h : Nat} {w : Nat → Nat} {σ : Sg} (x : Cs a h w σ) (g : Gb a) (hw : Wc (a 0 1) (a 0 3) (a 0 4) w) {v k : Nat} (hv : v ≤ 999) (hk : k < a 0 3) : fX2_shareOf σ (nI v) (nI k) = some (if lvl (fun lev => sma (a 0 3) w lev 0) v 100 0 = 0 then fI 0 else nI (shr (a 0 3) w (lvl (fun lev => sma (a 0 3) w lev 0) v 100 0 - 1) v k), σ) := by
  have hV := gb_V g
  have hle := lvl_le (fun lev => sma (a 0 3) w lev 0) v 100 0
  unfold fX2_shareOf
  rw [cLeast x g hw hv, bi_some]
  generalize lvl (fun lev => sma (a 0 3) w lev 0) v 100 0 = l at hle ⊢
  by_cases q : l = 0
  · rw [if_pos (show fI l = -1 by rw [q]; rfl), if_pos q]; rfl
  · rw [if_neg (show ¬ fI l = -1 by rw [lim1, fI_eq (by omega) (by omega)]; exact q), if_neg q, fI_p q]
    unfold shr
    rw [fo_last, Nat.zero_add]
    have lp := loop0 (fun n i (s : Nat × Nat) => fX2_shareOf_19 n (fun σ_7 x2_7 x3_7 x4_7 => bi (fX2_shareAhead σ_7 x4_7 x2_7 x3_7) (fun r_8 σ_8 => some (r_8, σ_8))) σ (nI k) (nI (l - 1)) (nI s.1) (nI i)) k (by omega) (fun s => bi (fX2_shareAhead σ (nI s.1) (nI k) (nI (l - 1))) (fun r_8 σ_8 => some (r_8, σ_8))) (fun i s => s.1 ≤ 999) (fun u (s : Nat × Nat) => (s.1 - (s.1 - sma (a 0 3) w (l - 1) (u + 1)), s.1 - sma (a 0 3) w (l - 1) (u + 1))) (by
      intro n s hs
      simp only [fX2_shareOf_19_s]
      unfold fX2_shareOf_19b
      simp (disch := omega) only [lt_eq, bi_some, bv_some, ↓lim1, pk_m1f, fI_add1, li0, li1, li2, li3, li4, li5, li6, li7, li8, li9, li10, li12, li15, li16, li19, li20, li26, li30, li31, li32, li48, li57, li59, li60, li64, li99, li100, li128, li240, li255, li480, li999, li1000, li9000, li9999, liF, nI_add, sb_nI, pk_mul, dv_nI, cl_nI, inbT, le_nI, lt_nI, eq_nI, fI_le, fI_eq, st_ne, st_at, iT, iF, Nat.zero_add, Nat.add_zero, not_true_eq_false, not_false_eq_true, true_and, and_true, false_and, and_false, or_true, true_or, or_false, false_or, Nat.reduceEqDiff, Nat.reduceLeDiff, Nat.reduceLT, Nat.reduceAdd, Nat.reduceSub, Nat.reduceMul, Nat.reduceDiv, Nat.reduceMod, ↓reduceIte, Nat.le_refl]) (by
      intro n i s hi hs
      simp only [fX2_shareOf_19_s]
      unfold fX2_shareOf_19b
      simp (disch := omega) only [lt_eq, bi_some, bv_some, ↓lim1, pk_m1f, fI_add1, li0, li1, li2, li3, li4, li5, li6, li7, li8, li9, li10, li12, li15, li16, li19, li20, li26, li30, li31, li32, li48, li57, li59, li60, li64, li99, li100, li128, li240, li255, li480, li999, li1000, li9000, li9999, liF, nI_add, sb_nI, pk_mul, dv_nI, cl_nI, inbT, le_nI, lt_nI, eq_nI, fI_le, fI_eq, st_ne, st_at, iT, iF, Nat.zero_add, Nat.add_zero, not_true_eq_false, not_false_eq_true, true_and, and_true, false_and, and_false, or_true, true_or, or_false, false_or, Nat.reduceEqDiff, Nat.reduceLeDiff, Nat.reduceLT, Nat.reduceAdd, Nat.reduceSub, Nat.reduceMul, Nat.reduceDiv, Nat.reduceMod, ↓reduceIte, show ¬ k ≤ i by omega, cAhead x g hw hs (show i < a 0 3 by omega) (show l - 1 ≤ 100 by omega)]) (by
      intro i s hi hs
      show s.1 - _ ≤ 999
      omega) (v, 0) hv
    have lp1 := lp.1
    rw [← li0] at lp1
    rw [lp1, cAhead x g hw lp.2 hk (by omega), bi_some]
/-! the class: the ring -/
theorem cFrom {a : Ab} (g : Gb a) {p : Nat} (hp : p < a 0 4) (h : a 3 p ≠ 0) : a 3 p - 1 < a 0 4 := by
  have := gb_from g hp
  omega
