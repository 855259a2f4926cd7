/-! ranges of arguments -/
abbrev isR (n : Nat) (x : Int32) : Prop := ¬ x < 0 ∧ x < nI n
theorem lt_s1 {n : Nat} (hn : n < 1000000) (x : Int32) : (x < nI (n + 1)) ↔ ¬ nI n < x := by
  rw [Int32.lt_iff_toInt_lt, Int32.lt_iff_toInt_lt, nI_toInt (by omega), nI_toInt (by omega)]
  omega
theorem in_rg (σ : Sg) (x : Int32) {n : Nat} {z : Int64} (hz : z = (nI n).toInt64) (hn : n < 1000000) : fX12_in σ x.toInt64 0 z = some (if isR (n + 1) x then 1 else 0, σ) := by
  rw [in_spec, hz, show (0 : Int64) = (0 : Int32).toInt64 from rfl]
  simp only [i64_le, isR, lt_s1 hn]
  have : (0 ≤ x ∧ x ≤ nI n) ↔ (¬ x < 0 ∧ ¬ nI n < x) := by
    rw [Int32.not_lt, Int32.not_lt]
  simp only [this]
theorem in_rg1 (σ : Sg) (x : Int32) {n : Nat} {z : Int64} (hz : z = (nI n).toInt64) (hn : n < 1000000) : fX12_in σ x.toInt64 1 z = some (if isR (n + 1) x ∧ ¬ x = 0 then 1 else 0, σ) := by
  rw [in_spec, hz, show (1 : Int64) = (1 : Int32).toInt64 from rfl]
  simp only [i64_le, isR, lt_s1 hn]
  have : (1 ≤ x ∧ x ≤ nI n) ↔ ((¬ x < 0 ∧ ¬ nI n < x) ∧ ¬ x = 0) := by
    rw [Int32.not_lt, Int32.not_lt, Int32.le_iff_toInt_le, Int32.le_iff_toInt_le, Int32.le_iff_toInt_le, ← Int32.toInt_inj]
    have h0 : (0 : Int32).toInt = 0 := rfl
    have h1 : (1 : Int32).toInt = 1 := rfl
    rw [h0, h1]
    omega
  simp only [this]
/-! the reference: harms, best, rid -/
def hof (P : Nat) (home : Nat → Nat) (w : Nat → Nat) (v : Nat) : Nat := fo (fun p s => s + (if home p = v then w (19 + p) else 0)) P 0 0
theorem mHarmOf {a : Ab} {σ : Sg} (h : RelM a σ) (g : Gb a) {v : Nat} (hv : v ≤ 4) : fX12_harmOf σ (nI v) = some (nI (hof (a 0 4) (a 2) (a 4) v), σ) := by
  have hP := gb_P g
  have hV := gb_V g
  unfold fX12_harmOf
  rw [li0]
  refine (loop0 (fun n i s => fX12_harmOf_4 n (fun σ_7 x2_7 => some (x2_7, σ_7)) σ (nI v) (nI s) (nI i)) (a 0 4) (by omega) (fun s => some (nI s, σ)) (fun i s => s ≤ 9999 * i) (fun p s => s + (if a 2 p = v then a 4 (19 + p) else 0)) ?_ ?_ ?_ 0 (by omega)).1
  · intro n s hs
    simp only [fX12_harmOf_4_s]
    unfold fX12_harmOf_4b
    simp (disch := omega) only [lt_eq, bi_some, bv_some, ↓lim1, pk_m1f, fI_add1, li0, li1, li2, li3, li4, li5, li6, li7, li8, li9, li10, li12, li15, li16, li19, li20, li26, li30, li31, li32, li48, li57, li59, li60, li64, li99, li100, li128, li240, li255, li480, li999, li1000, li9000, li9999, liF, nI_add, sb_nI, pk_mul, dv_nI, cl_nI, inbT, le_nI, lt_nI, eq_nI, fI_le, fI_eq, st_ne, st_at, iT, iF, Nat.zero_add, Nat.add_zero, not_true_eq_false, not_false_eq_true, true_and, and_true, false_and, and_false, or_true, true_or, or_false, false_or, Nat.reduceEqDiff, Nat.reduceLeDiff, Nat.reduceLT, Nat.reduceAdd, Nat.reduceSub, Nat.reduceMul, Nat.reduceDiv, Nat.reduceMod, ↓reduceIte, rm_P h, Nat.le_refl]
  · intro n i s hi hs
    have hh := wc_harm (gb_w g) hi
    have hm := gb_home g hi
    simp only [fX12_harmOf_4_s]
    unfold fX12_harmOf_4b fX12_harmOf_36
    simp (disch := omega) only [lt_eq, bi_some, bv_some, ↓lim1, pk_m1f, fI_add1, li0, li1, li2, li3, li4, li5, li6, li7, li8, li9, li10, li12, li15, li16, li19, li20, li26, li30, li31, li32, li48, li57, li59, li60, li64, li99, li100, li128, li240, li255, li480, li999, li1000, li9000, li9999, liF, nI_add, sb_nI, pk_mul, dv_nI, cl_nI, inbT, le_nI, lt_nI, eq_nI, fI_le, fI_eq, st_ne, st_at, iT, iF, Nat.zero_add, Nat.add_zero, not_true_eq_false, not_false_eq_true, true_and, and_true, false_and, and_false, or_true, true_or, or_false, false_or, Nat.reduceEqDiff, Nat.reduceLeDiff, Nat.reduceLT, Nat.reduceAdd, Nat.reduceSub, Nat.reduceMul, Nat.reduceDiv, Nat.reduceMod, ↓reduceIte, rm_P h, show ¬ a 0 4 ≤ i by omega, rm_w h, rm_home h hi]
    by_cases q : a 2 i = v
    · rw [if_pos q, if_pos q]
    · rw [if_neg q, if_neg q]; rfl
  · intro i s hi hs
    have hh := wc_harm (gb_w g) hi
    show s + (if a 2 i = v then a 4 (19 + i) else 0) ≤ 9999 * (i + 1)
    split <;> omega
/-- the best for n, and 1 -/
def bst (a : Ab) (n : Nat) : Nat := (fo (fun p (s : Nat × Nat) => if bt (a 4 3) p = 0 then (if (brg a p n).1 < s.2 then (p + 1, (brg a p n).1) else s) else s) (a 0 4) 0 (0, 100000000)).1
theorem sm_turn {σ : Sg} (v : Int32) : Sm σ (st σ 132 23 v) := Sm.st rfl
theorem mBest {a : Ab} {σ : Sg} (h : RelM a σ) (g : Gb a) {m : Nat} (hm : m ≤ 99) : ∃ τ, fX12_best_24 FU (fun σ_12 x2_12 => some (x2_12, σ_12)) σ (nI m) (-1) 100000000 0 = some (fI (bst a m), τ) ∧ Sm σ τ := by
  have hP := gb_P g
  have hs3 := (wc_set (gb_w g) hP).1
  have key := (loop0 (fun n i (s : (Nat × Nat) × Int32) => fX12_best_24 n (fun σ_12 x2_12 => some (x2_12, σ_12)) (st σ 132 23 s.2) (nI m) (fI s.1.1) (nI s.1.2) (nI i)) (a 0 4) (by omega) (fun s => some (fI s.1.1, st σ 132 23 s.2)) (fun i s => s.1.2 ≤ 100000000) (fun p s => if bt (a 4 3) p = 0 then ((if (brg a p m).1 < s.1.2 then (p + 1, (brg a p m).1) else s.1), nI (brg a p m).2) else s) ?_ ?_ ?_ ((0, 100000000), σ 132 23) (Nat.le_refl _)).1
  · rw [lim1, liF, li0]
    rw [st_self rfl] at key
    have := fo_rel (fun i (s : (Nat × Nat) × Int32) (t : Nat × Nat) => s.1 = t) (f := fun p (s : (Nat × Nat) × Int32) => if bt (a 4 3) p = 0 then ((if (brg a p m).1 < s.1.2 then (p + 1, (brg a p m).1) else s.1), nI (brg a p m).2) else s) (g := fun p (s : Nat × Nat) => if bt (a 4 3) p = 0 then (if (brg a p m).1 < s.2 then (p + 1, (brg a p m).1) else s) else s) (a 0 4) 0 ((0, 100000000), σ 132 23) (0, 100000000) rfl (by
      intro j x y h1 h2 h3
      subst h3
      by_cases q : bt (a 4 3) j = 0
      · rw [if_pos q, if_pos q]
      · rw [if_neg q, if_neg q])
    have e := congrArg Prod.fst this
    rw [show (fo (fun p (s : Nat × Nat) => if bt (a 4 3) p = 0 then (if (brg a p m).1 < s.2 then (p + 1, (brg a p m).1) else s) else s) (a 0 4) 0 (0, 100000000)).1 = bst a m from rfl] at e
    rw [e] at key
    exact ⟨_, key, sm_turn _⟩
  · intro n s hs
    simp only [fX12_best_24_s]
    have h2 : RelM a (st σ 132 23 s.2) := (sm_turn s.2).rel h
    unfold fX12_best_24b
    simp (disch := omega) only [lt_eq, bi_some, bv_some, ↓lim1, pk_m1f, fI_add1, li0, li1, li2, li3, li4, li5, li6, li7, li8, li9, li10, li12, li15, li16, li19, li20, li26, li30, li31, li32, li48, li57, li59, li60, li64, li99, li100, li128, li240, li255, li480, li999, li1000, li9000, li9999, liF, nI_add, sb_nI, pk_mul, dv_nI, cl_nI, inbT, le_nI, lt_nI, eq_nI, fI_le, fI_eq, st_ne, st_at, iT, iF, Nat.zero_add, Nat.add_zero, not_true_eq_false, not_false_eq_true, true_and, and_true, false_and, and_false, or_true, true_or, or_false, false_or, Nat.reduceEqDiff, Nat.reduceLeDiff, Nat.reduceLT, Nat.reduceAdd, Nat.reduceSub, Nat.reduceMul, Nat.reduceDiv, Nat.reduceMod, ↓reduceIte, rm_P h, Nat.le_refl]
  · intro n i s hi hs
    simp only [fX12_best_24_s]
    have h2 : RelM a (st σ 132 23 s.2) := (sm_turn s.2).rel h
    have hb := (brg_le g (p := i) hm).1
    unfold fX12_best_24b fX12_best_82
    simp (disch := omega) only [lt_eq, bi_some, bv_some, ↓lim1, pk_m1f, fI_add1, li0, li1, li2, li3, li4, li5, li6, li7, li8, li9, li10, li12, li15, li16, li19, li20, li26, li30, li31, li32, li48, li57, li59, li60, li64, li99, li100, li128, li240, li255, li480, li999, li1000, li9000, li9999, liF, nI_add, sb_nI, pk_mul, dv_nI, cl_nI, inbT, le_nI, lt_nI, eq_nI, fI_le, fI_eq, st_ne, st_at, iT, iF, Nat.zero_add, Nat.add_zero, not_true_eq_false, not_false_eq_true, true_and, and_true, false_and, and_false, or_true, true_or, or_false, false_or, Nat.reduceEqDiff, Nat.reduceLeDiff, Nat.reduceLT, Nat.reduceAdd, Nat.reduceSub, Nat.reduceMul, Nat.reduceDiv, Nat.reduceMod, ↓reduceIte, rm_P h, show ¬ a 0 4 ≤ i by omega, rm_w h, has_spec _ hs3 (show i < 7 by omega)]
    rcases bt_01 (a 4 3) i with q | q
    · simp (disch := omega) only [lt_eq, bi_some, bv_some, ↓lim1, pk_m1f, fI_add1, li0, li1, li2, li3, li4, li5, li6, li7, li8, li9, li10, li12, li15, li16, li19, li20, li26, li30, li31, li32, li48, li57, li59, li60, li64, li99, li100, li128, li240, li255, li480, li999, li1000, li9000, li9999, liF, nI_add, sb_nI, pk_mul, dv_nI, cl_nI, inbT, le_nI, lt_nI, eq_nI, fI_le, fI_eq, st_ne, st_at, iT, iF, Nat.zero_add, Nat.add_zero, not_true_eq_false, not_false_eq_true, true_and, and_true, false_and, and_false, or_true, true_or, or_false, false_or, Nat.reduceEqDiff, Nat.reduceLeDiff, Nat.reduceLT, Nat.reduceAdd, Nat.reduceSub, Nat.reduceMul, Nat.reduceDiv, Nat.reduceMod, ↓reduceIte, q, barg_spec h2 g hi hm, st_st]
      unfold fX12_best_68 fX12_best_81 fX12_best_82
      simp (disch := omega) only [lt_eq, bi_some, bv_some, ↓lim1, pk_m1f, fI_add1, li0, li1, li2, li3, li4, li5, li6, li7, li8, li9, li10, li12, li15, li16, li19, li20, li26, li30, li31, li32, li48, li57, li59, li60, li64, li99, li100, li128, li240, li255, li480, li999, li1000, li9000, li9999, liF, nI_add, sb_nI, pk_mul, dv_nI, cl_nI, inbT, le_nI, lt_nI, eq_nI, fI_le, fI_eq, st_ne, st_at, iT, iF, Nat.zero_add, Nat.add_zero, not_true_eq_false, not_false_eq_true, true_and, and_true, false_and, and_false, or_true, true_or, or_false, false_or, Nat.reduceEqDiff, Nat.reduceLeDiff, Nat.reduceLT, Nat.reduceAdd, Nat.reduceSub, Nat.reduceMul, Nat.reduceDiv, Nat.reduceMod, ↓reduceIte]
      by_cases z : (brg a i m).1 < s.1.2
      · simp (disch := omega) only [lt_eq, bi_some, bv_some, ↓lim1, pk_m1f, fI_add1, li0, li1, li2, li3, li4, li5, li6, li7, li8, li9, li10, li12, li15, li16, li19, li20, li26, li30, li31, li32, li48, li57, li59, li60, li64, li99, li100, li128, li240, li255, li480, li999, li1000, li9000, li9999, liF, nI_add, sb_nI, pk_mul, dv_nI, cl_nI, inbT, le_nI, lt_nI, eq_nI, fI_le, fI_eq, st_ne, st_at, iT, iF, Nat.zero_add, Nat.add_zero, not_true_eq_false, not_false_eq_true, true_and, and_true, false_and, and_false, or_true, true_or, or_false, false_or, Nat.reduceEqDiff, Nat.reduceLeDiff, Nat.reduceLT, Nat.reduceAdd, Nat.reduceSub, Nat.reduceMul, Nat.reduceDiv, Nat.reduceMod, ↓reduceIte, show ¬ s.1.2 ≤ (brg a i m).1 by omega, z, fI_s]
      · simp (disch := omega) only [lt_eq, bi_some, bv_some, ↓lim1, pk_m1f, fI_add1, li0, li1, li2, li3, li4, li5, li6, li7, li8, li9, li10, li12, li15, li16, li19, li20, li26, li30, li31, li32, li48, li57, li59, li60, li64, li99, li100, li128, li240, li255, li480, li999, li1000, li9000, li9999, liF, nI_add, sb_nI, pk_mul, dv_nI, cl_nI, inbT, le_nI, lt_nI, eq_nI, fI_le, fI_eq, st_ne, st_at, iT, iF, Nat.zero_add, Nat.add_zero, not_true_eq_false, not_false_eq_true, true_and, and_true, false_and, and_false, or_true, true_or, or_false, false_or, Nat.reduceEqDiff, Nat.reduceLeDiff, Nat.reduceLT, Nat.reduceAdd, Nat.reduceSub, Nat.reduceMul, Nat.reduceDiv, Nat.reduceMod, ↓reduceIte, show s.1.2 ≤ (brg a i m).1 by omega, z]
    · simp (disch := omega) only [lt_eq, bi_some, bv_some, ↓lim1, pk_m1f, fI_add1, li0, li1, li2, li3, li4, li5, li6, li7, li8, li9, li10, li12, li15, li16, li19, li20, li26, li30, li31, li32, li48, li57, li59, li60, li64, li99, li100, li128, li240, li255, li480, li999, li1000, li9000, li9999, liF, nI_add, sb_nI, pk_mul, dv_nI, cl_nI, inbT, le_nI, lt_nI, eq_nI, fI_le, fI_eq, st_ne, st_at, iT, iF, Nat.zero_add, Nat.add_zero, not_true_eq_false, not_false_eq_true, true_and, and_true, false_and, and_false, or_true, true_or, or_false, false_or, Nat.reduceEqDiff, Nat.reduceLeDiff, Nat.reduceLT, Nat.reduceAdd, Nat.reduceSub, Nat.reduceMul, Nat.reduceDiv, Nat.reduceMod, ↓reduceIte, q]
  · intro i s hi hs
    have hb := (brg_le g (p := i) hm).1
    by_cases q : bt (a 4 3) i = 0
    · rw [if_pos q]
      by_cases z : (brg a i m).1 < s.1.2
      · rw [if_pos z]; show (brg a i m).1 ≤ 100000000; omega
      · rw [if_neg z]; exact hs
    · rw [if_neg q]; exact hs
/-- the greatest of which nothing is left -/
def rid (a : Ab) (p : Nat) : Nat := fo (fun n m => if (brg a p n).1 = 0 then n else m) 100 0 0
theorem mRid {a : Ab} {σ : Sg} (h : RelM a σ) (g : Gb a) {p : Nat} (hp : p < a 0 4) : ∃ τ, fX12_ridOf σ (nI p) = some (nI (rid a p), τ) ∧ Sm σ τ := by
  have hP := gb_P g
  have key := (loop0 (fun n i (s : Nat × Int32) => fX12_ridOf_4 n (fun σ_5 x2_5 => some (x2_5, σ_5)) (st σ 132 23 s.2) (nI p) (nI s.1) (nI i)) 100 (by omega) (fun s => some (nI s.1, st σ 132 23 s.2)) (fun i s => s.1 ≤ 100) (fun n s => (if (brg a p n).1 = 0 then n else s.1, nI (brg a p n).2)) ?_ ?_ ?_ (0, σ 132 23) (by show 0 ≤ 100; omega)).1
  · unfold fX12_ridOf
    rw [li0]
    rw [st_self rfl] at key
    have := fo_rel (fun i (s : Nat × Int32) (t : Nat) => s.1 = t) (f := fun n (s : Nat × Int32) => (if (brg a p n).1 = 0 then n else s.1, nI (brg a p n).2)) (g := fun n m => if (brg a p n).1 = 0 then n else m) 100 0 (0, σ 132 23) 0 rfl (by
      intro j x y h1 h2 h3
      subst h3
      rfl)
    rw [show fo (fun n m => if (brg a p n).1 = 0 then n else m) 100 0 0 = rid a p from rfl] at this
    rw [this] at key
    exact ⟨_, key, sm_turn _⟩
  · intro n s hs
    simp only [fX12_ridOf_4_s]
    unfold fX12_ridOf_4b
    simp (disch := omega) only [lt_eq, bi_some, bv_some, ↓lim1, pk_m1f, fI_add1, li0, li1, li2, li3, li4, li5, li6, li7, li8, li9, li10, li12, li15, li16, li19, li20, li26, li30, li31, li32, li48, li57, li59, li60, li64, li99, li100, li128, li240, li255, li480, li999, li1000, li9000, li9999, liF, nI_add, sb_nI, pk_mul, dv_nI, cl_nI, inbT, le_nI, lt_nI, eq_nI, fI_le, fI_eq, st_ne, st_at, iT, iF, Nat.zero_add, Nat.add_zero, not_true_eq_false, not_false_eq_true, true_and, and_true, false_and, and_false, or_true, true_or, or_false, false_or, Nat.reduceEqDiff, Nat.reduceLeDiff, Nat.reduceLT, Nat.reduceAdd, Nat.reduceSub, Nat.reduceMul, Nat.reduceDiv, Nat.reduceMod, ↓reduceIte]
  · intro n i s hi hs
    simp only [fX12_ridOf_4_s]
    have h2 : RelM a (st σ 132 23 s.2) := (sm_turn s.2).rel h
    have hb := (brg_le g (p := p) (f := i) (by omega)).1
    unfold fX12_ridOf_4b fX12_ridOf_24
    simp (disch := omega) only [lt_eq, bi_some, bv_some, ↓lim1, pk_m1f, fI_add1, li0, li1, li2, li3, li4, li5, li6, li7, li8, li9, li10, li12, li15, li16, li19, li20, li26, li30, li31, li32, li48, li57, li59, li60, li64, li99, li100, li128, li240, li255, li480, li999, li1000, li9000, li9999, liF, nI_add, sb_nI, pk_mul, dv_nI, cl_nI, inbT, le_nI, lt_nI, eq_nI, fI_le, fI_eq, st_ne, st_at, iT, iF, Nat.zero_add, Nat.add_zero, not_true_eq_false, not_false_eq_true, true_and, and_true, false_and, and_false, or_true, true_or, or_false, false_or, Nat.reduceEqDiff, Nat.reduceLeDiff, Nat.reduceLT, Nat.reduceAdd, Nat.reduceSub, Nat.reduceMul, Nat.reduceDiv, Nat.reduceMod, ↓reduceIte, show ¬ 99 < i by omega, barg_spec h2 g hp (show i ≤ 99 by omega), st_st]
    by_cases z : (brg a p i).1 = 0
    · rw [if_pos z, if_pos z]
    · rw [if_neg z, if_neg z]
  · intro i s hi hs
    show (if (brg a p i).1 = 0 then i else s.1) ≤ 100
    split
    · omega
    · exact hs
