/-! the reference: returns -/
theorem bt16 {s V : Nat} (hs : s < 2 ^ V) (hV : V ≤ 4) : s < 16 := by
  have : 2 ^ V ≤ 2 ^ 4 := Nat.pow_le_pow_right (by omega) hV
  omega
def smr (V : Nat) (rb : Nat → Nat) (set k : Nat) : Nat := fo (fun v s => s + (if bt set v = 0 then 0 else rb (4 * k + v))) V 0 0
theorem smr_le {V : Nat} {rb : Nat → Nat} (hV : V ≤ 4) (set k : Nat) (hb : ∀ v, v < V → rb (4 * k + v) ≤ 99) : smr V rb set k ≤ 396 := by
  have := fo_inv (fun i s => s ≤ 99 * i) (f := fun v s => s + (if bt set v = 0 then 0 else rb (4 * k + v))) V 0 0 (by omega) (by
    intro j s h1 h2 h3
    have := hb j (by omega)
    show s + (if bt set j = 0 then 0 else rb (4 * k + j)) ≤ 99 * (j + 1)
    split <;> omega)
  rw [Nat.zero_add] at this
  exact Nat.le_trans this (by omega)
/-- whether a set may be, from return k on -/
def mbl (a : Ab) (set : Nat) : Nat → Nat → Nat → Nat := fo (fun k is => if is = 0 then 0 else if smr (a 0 3) (a 8) set k = a 7 k then 1 else 0)
def mb (a : Ab) (set : Nat) : Nat := mbl a set (a 5 4) 0 (if a 0 1 = 0 then 0 else 1)
theorem mbl_0 (a : Ab) (set : Nat) : ∀ d k, mbl a set d k 0 = 0 := by
  intro d k
  have := fo_inv (fun i s => s = 0) (f := fun k is => if is = 0 then 0 else if smr (a 0 3) (a 8) set k = a 7 k then 1 else 0) d k 0 rfl (by
    intro j s h1 h2 h3
    show (if s = 0 then 0 else _) = 0
    rw [if_pos h3])
  exact this
theorem mbl_01 (a : Ab) (set : Nat) (d k x : Nat) (hx : x ≤ 1) : mbl a set d k x ≤ 1 := by
  have := fo_inv (fun i s => s ≤ 1) (f := fun k is => if is = 0 then 0 else if smr (a 0 3) (a 8) set k = a 7 k then 1 else 0) d k x hx (by
    intro j s h1 h2 h3
    show (if s = 0 then 0 else if smr (a 0 3) (a 8) set j = a 7 j then 1 else 0) ≤ 1
    repeat' split
    all_goals omega)
  exact this
theorem mb_01 (a : Ab) (set : Nat) : mb a set ≤ 1 := mbl_01 a set _ _ _ (by split <;> omega)
theorem gb_ret {a : Ab} (g : Gb a) {r : Nat} (hr : r < a 5 4) : a 7 r ≤ 999 := (g.2.2.2.2.2.2.1 r hr).1
theorem gb_retb {a : Ab} (g : Gb a) {r v : Nat} (hr : r < a 5 4) (hv : v < a 0 3) : a 8 (4 * r + v) ≤ 99 := (g.2.2.2.2.2.2.1 r hr).2 v hv
theorem gb_rets {a : Ab} (g : Gb a) : a 5 4 ≤ 6 := g.2.2.2.1.2.2.2.2.1
theorem mMay25 {a : Ab} {σ : Sg} (h : RelM a σ) (g : Gb a) {set k : Nat} (hs : set < 16) (hk : k < a 5 4) (kx : Sg → Int32 → Int32 → Int32 → Option (Int32 × Sg)) : fX12_mayBe_25 FU kx σ (nI set) (nI k) 0 0 = kx σ (nI set) (nI k) (nI (smr (a 0 3) (a 8) set k)) := by
  have hV := gb_V g
  have h6 := gb_rets g
  rw [li0]
  refine (loop0 (fun n i s => fX12_mayBe_25 n kx σ (nI set) (nI k) (nI s) (nI i)) (a 0 3) (by omega) (fun s => kx σ (nI set) (nI k) (nI s)) (fun i s => s ≤ 99 * i) (fun v s => s + (if bt set v = 0 then 0 else a 8 (4 * k + v))) ?_ ?_ ?_ 0 (by omega)).1
  · intro n s hs
    simp only [fX12_mayBe_25_s]
    unfold fX12_mayBe_25b
    simp (disch := omega) only [lt_eq, bi_some, bv_some, ↓lim1, pk_m1f, fI_add1, li0, li1, li2, li3, li4, li5, li6, li7, li8, li9, li10, li12, li15, li16, li19, li20, li26, li30, li31, li32, li48, li57, li59, li60, li64, li99, li100, li128, li240, li255, li480, li999, li1000, li9000, li9999, liF, nI_add, sb_nI, pk_mul, dv_nI, cl_nI, inbT, le_nI, lt_nI, eq_nI, fI_le, fI_eq, st_ne, st_at, iT, iF, Nat.zero_add, Nat.add_zero, not_true_eq_false, not_false_eq_true, true_and, and_true, false_and, and_false, or_true, true_or, or_false, false_or, Nat.reduceEqDiff, Nat.reduceLeDiff, Nat.reduceLT, Nat.reduceAdd, Nat.reduceSub, Nat.reduceMul, Nat.reduceDiv, Nat.reduceMod, ↓reduceIte, rm_V h, Nat.le_refl]
  · intro n i s hi hss
    have hb := gb_retb g hk hi
    simp only [fX12_mayBe_25_s]
    unfold fX12_mayBe_25b fX12_mayBe_60
    simp (disch := omega) only [lt_eq, bi_some, bv_some, ↓lim1, pk_m1f, fI_add1, li0, li1, li2, li3, li4, li5, li6, li7, li8, li9, li10, li12, li15, li16, li19, li20, li26, li30, li31, li32, li48, li57, li59, li60, li64, li99, li100, li128, li240, li255, li480, li999, li1000, li9000, li9999, liF, nI_add, sb_nI, pk_mul, dv_nI, cl_nI, inbT, le_nI, lt_nI, eq_nI, fI_le, fI_eq, st_ne, st_at, iT, iF, Nat.zero_add, Nat.add_zero, not_true_eq_false, not_false_eq_true, true_and, and_true, false_and, and_false, or_true, true_or, or_false, false_or, Nat.reduceEqDiff, Nat.reduceLeDiff, Nat.reduceLT, Nat.reduceAdd, Nat.reduceSub, Nat.reduceMul, Nat.reduceDiv, Nat.reduceMod, ↓reduceIte, rm_V h, show ¬ a 0 3 ≤ i by omega, has_spec σ (show set < 128 by omega) (show i < 7 by omega)]
    rcases bt_01 set i with q | q
    · simp (disch := omega) only [lt_eq, bi_some, bv_some, ↓lim1, pk_m1f, fI_add1, li0, li1, li2, li3, li4, li5, li6, li7, li8, li9, li10, li12, li15, li16, li19, li20, li26, li30, li31, li32, li48, li57, li59, li60, li64, li99, li100, li128, li240, li255, li480, li999, li1000, li9000, li9999, liF, nI_add, sb_nI, pk_mul, dv_nI, cl_nI, inbT, le_nI, lt_nI, eq_nI, fI_le, fI_eq, st_ne, st_at, iT, iF, Nat.zero_add, Nat.add_zero, not_true_eq_false, not_false_eq_true, true_and, and_true, false_and, and_false, or_true, true_or, or_false, false_or, Nat.reduceEqDiff, Nat.reduceLeDiff, Nat.reduceLT, Nat.reduceAdd, Nat.reduceSub, Nat.reduceMul, Nat.reduceDiv, Nat.reduceMod, ↓reduceIte, q]
    · simp (disch := omega) only [lt_eq, bi_some, bv_some, ↓lim1, pk_m1f, fI_add1, li0, li1, li2, li3, li4, li5, li6, li7, li8, li9, li10, li12, li15, li16, li19, li20, li26, li30, li31, li32, li48, li57, li59, li60, li64, li99, li100, li128, li240, li255, li480, li999, li1000, li9000, li9999, liF, nI_add, sb_nI, pk_mul, dv_nI, cl_nI, inbT, le_nI, lt_nI, eq_nI, fI_le, fI_eq, st_ne, st_at, iT, iF, Nat.zero_add, Nat.add_zero, not_true_eq_false, not_false_eq_true, true_and, and_true, false_and, and_false, or_true, true_or, or_false, false_or, Nat.reduceEqDiff, Nat.reduceLeDiff, Nat.reduceLT, Nat.reduceAdd, Nat.reduceSub, Nat.reduceMul, Nat.reduceDiv, Nat.reduceMod, ↓reduceIte, q, rm_retb h hk hi]
  · intro i s hi hss
    have hb := gb_retb g hk hi
    show s + (if bt set i = 0 then 0 else a 8 (4 * k + i)) ≤ 99 * (i + 1)
    split <;> omega
theorem mMay_loop {a : Ab} {σ : Sg} (h : RelM a σ) (g : Gb a) {set : Nat} (hs : set < 16) : ∀ (d k fu is : Nat), k + d = a 5 4 → d < fu → is ≤ 1 → fX12_mayBe_7 fu (fun σ_14 x2_14 => fX12_mayBe_92 σ_14 x2_14) σ (nI set) (nI is) (nI k) = some (nI (mbl a set d k is), σ) := by
  have h6 := gb_rets g
  have e92 : ∀ x, x ≤ 1 → fX12_mayBe_92 σ (nI x) = some (nI x, σ) := by
    intro x hx
    unfold fX12_mayBe_92
    rcases (show x = 0 ∨ x = 1 by omega) with q | q <;> subst q <;> rfl
  intro d
  induction d with
  | zero =>
    intro k fu is h1 h2 h3
    cases fu with
    | zero => omega
    | succ fu =>
      rw [fX12_mayBe_7_s]
      unfold fX12_mayBe_7b
      simp (disch := omega) only [lt_eq, bi_some, bv_some, ↓lim1, pk_m1f, fI_add1, li0, li1, li2, li3, li4, li5, li6, li7, li8, li9, li10, li12, li15, li16, li19, li20, li26, li30, li31, li32, li48, li57, li59, li60, li64, li99, li100, li128, li240, li255, li480, li999, li1000, li9000, li9999, liF, nI_add, sb_nI, pk_mul, dv_nI, cl_nI, inbT, le_nI, lt_nI, eq_nI, fI_le, fI_eq, st_ne, st_at, iT, iF, Nat.zero_add, Nat.add_zero, not_true_eq_false, not_false_eq_true, true_and, and_true, false_and, and_false, or_true, true_or, or_false, false_or, Nat.reduceEqDiff, Nat.reduceLeDiff, Nat.reduceLT, Nat.reduceAdd, Nat.reduceSub, Nat.reduceMul, Nat.reduceDiv, Nat.reduceMod, ↓reduceIte, rm_rets h, show a 5 4 ≤ k by omega]
      rw [e92 is h3]
      rfl
  | succ d ih =>
    intro k fu is h1 h2 h3
    cases fu with
    | zero => omega
    | succ fu =>
      rw [fX12_mayBe_7_s]
      unfold fX12_mayBe_7b
      have hk : k < a 5 4 := by omega
      have ha := gb_ret g hk
      have hsm := smr_le (gb_V g) set k (fun v hv => gb_retb g hk hv)
      have m25 := fun kx => mMay25 h g hs hk kx
      rw [li0] at m25
      simp (disch := omega) only [lt_eq, bi_some, bv_some, ↓lim1, pk_m1f, fI_add1, li0, li1, li2, li3, li4, li5, li6, li7, li8, li9, li10, li12, li15, li16, li19, li20, li26, li30, li31, li32, li48, li57, li59, li60, li64, li99, li100, li128, li240, li255, li480, li999, li1000, li9000, li9999, liF, nI_add, sb_nI, pk_mul, dv_nI, cl_nI, inbT, le_nI, lt_nI, eq_nI, fI_le, fI_eq, st_ne, st_at, iT, iF, Nat.zero_add, Nat.add_zero, not_true_eq_false, not_false_eq_true, true_and, and_true, false_and, and_false, or_true, true_or, or_false, false_or, Nat.reduceEqDiff, Nat.reduceLeDiff, Nat.reduceLT, Nat.reduceAdd, Nat.reduceSub, Nat.reduceMul, Nat.reduceDiv, Nat.reduceMod, ↓reduceIte, rm_rets h, show ¬ a 5 4 ≤ k by omega]
      by_cases q : is = 0
      · subst q
        rw [mbl_0]
        simp (disch := omega) only [lt_eq, bi_some, bv_some, ↓lim1, pk_m1f, fI_add1, li0, li1, li2, li3, li4, li5, li6, li7, li8, li9, li10, li12, li15, li16, li19, li20, li26, li30, li31, li32, li48, li57, li59, li60, li64, li99, li100, li128, li240, li255, li480, li999, li1000, li9000, li9999, liF, nI_add, sb_nI, pk_mul, dv_nI, cl_nI, inbT, le_nI, lt_nI, eq_nI, fI_le, fI_eq, st_ne, st_at, iT, iF, Nat.zero_add, Nat.add_zero, not_true_eq_false, not_false_eq_true, true_and, and_true, false_and, and_false, or_true, true_or, or_false, false_or, Nat.reduceEqDiff, Nat.reduceLeDiff, Nat.reduceLT, Nat.reduceAdd, Nat.reduceSub, Nat.reduceMul, Nat.reduceDiv, Nat.reduceMod, ↓reduceIte]
        exact e92 0 (by omega)
      · simp (disch := omega) only [lt_eq, bi_some, bv_some, ↓lim1, pk_m1f, fI_add1, li0, li1, li2, li3, li4, li5, li6, li7, li8, li9, li10, li12, li15, li16, li19, li20, li26, li30, li31, li32, li48, li57, li59, li60, li64, li99, li100, li128, li240, li255, li480, li999, li1000, li9000, li9999, liF, nI_add, sb_nI, pk_mul, dv_nI, cl_nI, inbT, le_nI, lt_nI, eq_nI, fI_le, fI_eq, st_ne, st_at, iT, iF, Nat.zero_add, Nat.add_zero, not_true_eq_false, not_false_eq_true, true_and, and_true, false_and, and_false, or_true, true_or, or_false, false_or, Nat.reduceEqDiff, Nat.reduceLeDiff, Nat.reduceLT, Nat.reduceAdd, Nat.reduceSub, Nat.reduceMul, Nat.reduceDiv, Nat.reduceMod, ↓reduceIte, q, m25, rm_ret h hk]
        show _ = some (nI (mbl a set d (k + 1) (if is = 0 then 0 else if smr (a 0 3) (a 8) set k = a 7 k then 1 else 0)), σ)
        unfold fX12_mayBe_85
        by_cases z : smr (a 0 3) (a 8) set k = a 7 k
        · simp (disch := omega) only [lt_eq, bi_some, bv_some, ↓lim1, pk_m1f, fI_add1, li0, li1, li2, li3, li4, li5, li6, li7, li8, li9, li10, li12, li15, li16, li19, li20, li26, li30, li31, li32, li48, li57, li59, li60, li64, li99, li100, li128, li240, li255, li480, li999, li1000, li9000, li9999, liF, nI_add, sb_nI, pk_mul, dv_nI, cl_nI, inbT, le_nI, lt_nI, eq_nI, fI_le, fI_eq, st_ne, st_at, iT, iF, Nat.zero_add, Nat.add_zero, not_true_eq_false, not_false_eq_true, true_and, and_true, false_and, and_false, or_true, true_or, or_false, false_or, Nat.reduceEqDiff, Nat.reduceLeDiff, Nat.reduceLT, Nat.reduceAdd, Nat.reduceSub, Nat.reduceMul, Nat.reduceDiv, Nat.reduceMod, ↓reduceIte, z, q]
          exact ih (k + 1) fu 1 (by omega) (by omega) (by omega)
        · simp (disch := omega) only [lt_eq, bi_some, bv_some, ↓lim1, pk_m1f, fI_add1, li0, li1, li2, li3, li4, li5, li6, li7, li8, li9, li10, li12, li15, li16, li19, li20, li26, li30, li31, li32, li48, li57, li59, li60, li64, li99, li100, li128, li240, li255, li480, li999, li1000, li9000, li9999, liF, nI_add, sb_nI, pk_mul, dv_nI, cl_nI, inbT, le_nI, lt_nI, eq_nI, fI_le, fI_eq, st_ne, st_at, iT, iF, Nat.zero_add, Nat.add_zero, not_true_eq_false, not_false_eq_true, true_and, and_true, false_and, and_false, or_true, true_or, or_false, false_or, Nat.reduceEqDiff, Nat.reduceLeDiff, Nat.reduceLT, Nat.reduceAdd, Nat.reduceSub, Nat.reduceMul, Nat.reduceDiv, Nat.reduceMod, ↓reduceIte, z, q]
          exact ih (k + 1) fu 0 (by omega) (by omega) (by omega)
theorem mMay {a : Ab} {σ : Sg} (h : RelM a σ) (g : Gb a) {set : Nat} (hs : set < 16) : fX12_mayBe σ (nI set) = some (nI (mb a set), σ) := by
  have h6 := gb_rets g
  unfold fX12_mayBe mb
  rw [isHills_spec h g, bi_some, li0]
  by_cases q : a 0 1 = 0
  · rw [if_pos q, if_pos q]
    exact mMay_loop h g hs (a 5 4) 0 FU 0 (by omega) (by have := FU_ge; omega) (by omega)
  · rw [if_neg q, if_neg q]
    exact mMay_loop h g hs (a 5 4) 0 FU 1 (by omega) (by have := FU_ge; omega) (by omega)
/-- how many sets may be -/
def mny (a : Ab) : Nat := fo (fun set n => n + mb a set) (2 ^ a 0 3) 0 0
theorem pow16 {V : Nat} (hV : V ≤ 4) : 2 ^ V ≤ 16 := Nat.pow_le_pow_right (j := 4) (by omega) hV
theorem mMany {a : Ab} {σ : Sg} (h : RelM a σ) (g : Gb a) : fX12_manyWent σ = some (nI (mny a), σ) := by
  have hV := gb_V g
  have hp := pow16 hV
  unfold fX12_manyWent
  rw [li0]
  refine (loop0 (fun n i s => fX12_manyWent_4 n (fun σ_6 x1_6 => some (x1_6, σ_6)) σ (nI s) (nI i)) (2 ^ a 0 3) (by omega) (fun s => some (nI s, σ)) (fun i s => s ≤ i) (fun set n => n + mb a set) ?_ ?_ ?_ 0 (by omega)).1
  · intro n s hs
    simp only [fX12_manyWent_4_s]
    unfold fX12_manyWent_4b
    rw [rm_V h, sh_nI (by omega)]
    simp (disch := omega) only [lt_eq, bi_some, bv_some, ↓lim1, pk_m1f, fI_add1, li0, li1, li2, li3, li4, li5, li6, li7, li8, li9, li10, li12, li15, li16, li19, li20, li26, li30, li31, li32, li48, li57, li59, li60, li64, li99, li100, li128, li240, li255, li480, li999, li1000, li9000, li9999, liF, nI_add, sb_nI, pk_mul, dv_nI, cl_nI, inbT, le_nI, lt_nI, eq_nI, fI_le, fI_eq, st_ne, st_at, iT, iF, Nat.zero_add, Nat.add_zero, not_true_eq_false, not_false_eq_true, true_and, and_true, false_and, and_false, or_true, true_or, or_false, false_or, Nat.reduceEqDiff, Nat.reduceLeDiff, Nat.reduceLT, Nat.reduceAdd, Nat.reduceSub, Nat.reduceMul, Nat.reduceDiv, Nat.reduceMod, ↓reduceIte, Nat.le_refl]
  · intro n i s hi hs
    simp only [fX12_manyWent_4_s]
    unfold fX12_manyWent_4b fX12_manyWent_28
    rw [rm_V h, sh_nI (by omega)]
    have := mb_01 a i
    simp (disch := omega) only [lt_eq, bi_some, bv_some, ↓lim1, pk_m1f, fI_add1, li0, li1, li2, li3, li4, li5, li6, li7, li8, li9, li10, li12, li15, li16, li19, li20, li26, li30, li31, li32, li48, li57, li59, li60, li64, li99, li100, li128, li240, li255, li480, li999, li1000, li9000, li9999, liF, nI_add, sb_nI, pk_mul, dv_nI, cl_nI, inbT, le_nI, lt_nI, eq_nI, fI_le, fI_eq, st_ne, st_at, iT, iF, Nat.zero_add, Nat.add_zero, not_true_eq_false, not_false_eq_true, true_and, and_true, false_and, and_false, or_true, true_or, or_false, false_or, Nat.reduceEqDiff, Nat.reduceLeDiff, Nat.reduceLT, Nat.reduceAdd, Nat.reduceSub, Nat.reduceMul, Nat.reduceDiv, Nat.reduceMod, ↓reduceIte, show ¬ 2 ^ a 0 3 ≤ i by omega, mMay h g (show i < 16 by omega)]
    rcases (show mb a i = 0 ∨ mb a i = 1 by omega) with q | q
    · simp (disch := omega) only [lt_eq, bi_some, bv_some, ↓lim1, pk_m1f, fI_add1, li0, li1, li2, li3, li4, li5, li6, li7, li8, li9, li10, li12, li15, li16, li19, li20, li26, li30, li31, li32, li48, li57, li59, li60, li64, li99, li100, li128, li240, li255, li480, li999, li1000, li9000, li9999, liF, nI_add, sb_nI, pk_mul, dv_nI, cl_nI, inbT, le_nI, lt_nI, eq_nI, fI_le, fI_eq, st_ne, st_at, iT, iF, Nat.zero_add, Nat.add_zero, not_true_eq_false, not_false_eq_true, true_and, and_true, false_and, and_false, or_true, true_or, or_false, false_or, Nat.reduceEqDiff, Nat.reduceLeDiff, Nat.reduceLT, Nat.reduceAdd, Nat.reduceSub, Nat.reduceMul, Nat.reduceDiv, Nat.reduceMod, ↓reduceIte, q]
    · simp (disch := omega) only [lt_eq, bi_some, bv_some, ↓lim1, pk_m1f, fI_add1, li0, li1, li2, li3, li4, li5, li6, li7, li8, li9, li10, li12, li15, li16, li19, li20, li26, li30, li31, li32, li48, li57, li59, li60, li64, li99, li100, li128, li240, li255, li480, li999, li1000, li9000, li9999, liF, nI_add, sb_nI, pk_mul, dv_nI, cl_nI, inbT, le_nI, lt_nI, eq_nI, fI_le, fI_eq, st_ne, st_at, iT, iF, Nat.zero_add, Nat.add_zero, not_true_eq_false, not_false_eq_true, true_and, and_true, false_and, and_false, or_true, true_or, or_false, false_or, Nat.reduceEqDiff, Nat.reduceLeDiff, Nat.reduceLT, Nat.reduceAdd, Nat.reduceSub, Nat.reduceMul, Nat.reduceDiv, Nat.reduceMod, ↓reduceIte, q]
  · intro i s hi hs
    have := mb_01 a i
    show s + mb a i ≤ i + 1
    omega
theorem mny_le {a : Ab} (g : Gb a) : mny a ≤ 16 := by
  have hV := gb_V g
  have hp := pow16 hV
  have := fo_inv (fun i s => s ≤ i) (f := fun set n => n + mb a set) (2 ^ a 0 3) 0 0 (by omega) (by
    intro j s h1 h2 h3
    have := mb_01 a j
    show s + mb a j ≤ j + 1
    omega)
  have e : mny a ≤ 0 + 2 ^ a 0 3 := this
  omega
/-- villages in each -/
def ieF (a : Ab) : Nat → Int32 → Int32 := fun set x => x &&& (if mb a set = 0 then fI 0 else nI set)
def ine (a : Ab) : Int32 := if mny a = 0 then fI 0 else fo (ieF a) (2 ^ a 0 3) 0 (nI (2 ^ a 0 3) - nI 1)
theorem mIne {a : Ab} {σ : Sg} (h : RelM a σ) (g : Gb a) : fX12_inEach σ = some (ine a, σ) := by
  have hV := gb_V g
  have hp := pow16 hV
  have hm := mny_le g
  unfold fX12_inEach
  rw [rm_V h, sh_nI (by omega), lt_eq, li1, li0]
  have key := (loop0 (fun n i x => fX12_inEach_11 n (fun σ_7 x1_7 => bi (fX12_manyWent σ_7) (fun r_8 σ_8 => (if r_8 = nI 0 then some ((-1), σ_8) else some (x1_7, σ_8)))) σ x (nI i)) (2 ^ a 0 3) (by omega) (fun x => some (if mny a = 0 then fI 0 else x, σ)) (fun _ _ => True) (ieF a) ?_ ?_ (fun _ _ _ _ => trivial) (nI (2 ^ a 0 3) - nI 1) trivial).1
  · exact key
  · intro n x _
    simp only [fX12_inEach_11_s]
    unfold fX12_inEach_11b
    rw [rm_V h, sh_nI (by omega)]
    simp (disch := omega) only [lt_eq, bi_some, bv_some, ↓lim1, pk_m1f, fI_add1, li0, li1, li2, li3, li4, li5, li6, li7, li8, li9, li10, li12, li15, li16, li19, li20, li26, li30, li31, li32, li48, li57, li59, li60, li64, li99, li100, li128, li240, li255, li480, li999, li1000, li9000, li9999, liF, nI_add, sb_nI, pk_mul, dv_nI, cl_nI, inbT, le_nI, lt_nI, eq_nI, fI_le, fI_eq, st_ne, st_at, iT, iF, Nat.zero_add, Nat.add_zero, not_true_eq_false, not_false_eq_true, true_and, and_true, false_and, and_false, or_true, true_or, or_false, false_or, Nat.reduceEqDiff, Nat.reduceLeDiff, Nat.reduceLT, Nat.reduceAdd, Nat.reduceSub, Nat.reduceMul, Nat.reduceDiv, Nat.reduceMod, ↓reduceIte, Nat.le_refl, mMany h g]
    by_cases q : mny a = 0
    · simp (disch := omega) only [lt_eq, bi_some, bv_some, ↓lim1, pk_m1f, fI_add1, li0, li1, li2, li3, li4, li5, li6, li7, li8, li9, li10, li12, li15, li16, li19, li20, li26, li30, li31, li32, li48, li57, li59, li60, li64, li99, li100, li128, li240, li255, li480, li999, li1000, li9000, li9999, liF, nI_add, sb_nI, pk_mul, dv_nI, cl_nI, inbT, le_nI, lt_nI, eq_nI, fI_le, fI_eq, st_ne, st_at, iT, iF, Nat.zero_add, Nat.add_zero, not_true_eq_false, not_false_eq_true, true_and, and_true, false_and, and_false, or_true, true_or, or_false, false_or, Nat.reduceEqDiff, Nat.reduceLeDiff, Nat.reduceLT, Nat.reduceAdd, Nat.reduceSub, Nat.reduceMul, Nat.reduceDiv, Nat.reduceMod, ↓reduceIte, q]
    · simp (disch := omega) only [lt_eq, bi_some, bv_some, ↓lim1, pk_m1f, fI_add1, li0, li1, li2, li3, li4, li5, li6, li7, li8, li9, li10, li12, li15, li16, li19, li20, li26, li30, li31, li32, li48, li57, li59, li60, li64, li99, li100, li128, li240, li255, li480, li999, li1000, li9000, li9999, liF, nI_add, sb_nI, pk_mul, dv_nI, cl_nI, inbT, le_nI, lt_nI, eq_nI, fI_le, fI_eq, st_ne, st_at, iT, iF, Nat.zero_add, Nat.add_zero, not_true_eq_false, not_false_eq_true, true_and, and_true, false_and, and_false, or_true, true_or, or_false, false_or, Nat.reduceEqDiff, Nat.reduceLeDiff, Nat.reduceLT, Nat.reduceAdd, Nat.reduceSub, Nat.reduceMul, Nat.reduceDiv, Nat.reduceMod, ↓reduceIte, q]
  · intro n i x hi _
    simp only [fX12_inEach_11_s]
    unfold fX12_inEach_11b fX12_inEach_35
    rw [rm_V h, sh_nI (by omega)]
    have := mb_01 a i
    simp (disch := omega) only [lt_eq, bi_some, bv_some, ↓lim1, pk_m1f, fI_add1, li0, li1, li2, li3, li4, li5, li6, li7, li8, li9, li10, li12, li15, li16, li19, li20, li26, li30, li31, li32, li48, li57, li59, li60, li64, li99, li100, li128, li240, li255, li480, li999, li1000, li9000, li9999, liF, nI_add, sb_nI, pk_mul, dv_nI, cl_nI, inbT, le_nI, lt_nI, eq_nI, fI_le, fI_eq, st_ne, st_at, iT, iF, Nat.zero_add, Nat.add_zero, not_true_eq_false, not_false_eq_true, true_and, and_true, false_and, and_false, or_true, true_or, or_false, false_or, Nat.reduceEqDiff, Nat.reduceLeDiff, Nat.reduceLT, Nat.reduceAdd, Nat.reduceSub, Nat.reduceMul, Nat.reduceDiv, Nat.reduceMod, ↓reduceIte, show ¬ 2 ^ a 0 3 ≤ i by omega, mMay h g (show i < 16 by omega), ieF]
    rcases (show mb a i = 0 ∨ mb a i = 1 by omega) with q | q
    · simp (disch := omega) only [lt_eq, bi_some, bv_some, ↓lim1, pk_m1f, fI_add1, li0, li1, li2, li3, li4, li5, li6, li7, li8, li9, li10, li12, li15, li16, li19, li20, li26, li30, li31, li32, li48, li57, li59, li60, li64, li99, li100, li128, li240, li255, li480, li999, li1000, li9000, li9999, liF, nI_add, sb_nI, pk_mul, dv_nI, cl_nI, inbT, le_nI, lt_nI, eq_nI, fI_le, fI_eq, st_ne, st_at, iT, iF, Nat.zero_add, Nat.add_zero, not_true_eq_false, not_false_eq_true, true_and, and_true, false_and, and_false, or_true, true_or, or_false, false_or, Nat.reduceEqDiff, Nat.reduceLeDiff, Nat.reduceLT, Nat.reduceAdd, Nat.reduceSub, Nat.reduceMul, Nat.reduceDiv, Nat.reduceMod, ↓reduceIte, q]
    · simp (disch := omega) only [lt_eq, bi_some, bv_some, ↓lim1, pk_m1f, fI_add1, li0, li1, li2, li3, li4, li5, li6, li7, li8, li9, li10, li12, li15, li16, li19, li20, li26, li30, li31, li32, li48, li57, li59, li60, li64, li99, li100, li128, li240, li255, li480, li999, li1000, li9000, li9999, liF, nI_add, sb_nI, pk_mul, dv_nI, cl_nI, inbT, le_nI, lt_nI, eq_nI, fI_le, fI_eq, st_ne, st_at, iT, iF, Nat.zero_add, Nat.add_zero, not_true_eq_false, not_false_eq_true, true_and, and_true, false_and, and_false, or_true, true_or, or_false, false_or, Nat.reduceEqDiff, Nat.reduceLeDiff, Nat.reduceLT, Nat.reduceAdd, Nat.reduceSub, Nat.reduceMul, Nat.reduceDiv, Nat.reduceMod, ↓reduceIte, q]
/-- the village to ask for, and 1 -/
def wth (a : Ab) (v : Nat) : Nat := fo (fun set n => n + (if bt set v = 0 then 0 else mb a set)) (2 ^ a 0 3) 0 0
def ask (a : Ab) : Nat := (fo (fun v (s : Nat × Nat) => if (if wth a v ≤ mny a - wth a v then mny a - wth a v else wth a v) < s.2 then (v + 1, if wth a v ≤ mny a - wth a v then mny a - wth a v else wth a v) else s) (a 0 3) 0 (0, mny a)).1
theorem wth_le (a : Ab) (v : Nat) : wth a v ≤ mny a := by
  have := fo_rel (fun i (s t : Nat) => s ≤ t) (f := fun set n => n + (if bt set v = 0 then 0 else mb a set)) (g := fun set n => n + mb a set) (2 ^ a 0 3) 0 0 0 (Nat.le_refl _) (by
    intro j x y h1 h2 h3
    show x + (if bt j v = 0 then 0 else mb a j) ≤ y + mb a j
    split <;> omega)
  exact this
theorem mWth {a : Ab} {σ : Sg} (h : RelM a σ) (g : Gb a) {v : Nat} (hv : v < 4) (x1 x2 x3 : Int32) (kx : Sg → Int32 → Int32 → Int32 → Int32 → Int32 → Option (Int32 × Sg)) : fX12_askNext_27 FU kx σ x1 x2 x3 (nI v) 0 0 = kx σ x1 x2 x3 (nI v) (nI (wth a v)) := by
  have hV := gb_V g
  have hp := pow16 hV
  rw [li0]
  refine (loop0 (fun n i s => fX12_askNext_27 n kx σ x1 x2 x3 (nI v) (nI s) (nI i)) (2 ^ a 0 3) (by omega) (fun s => kx σ x1 x2 x3 (nI v) (nI s)) (fun i s => s ≤ i) (fun set n => n + (if bt set v = 0 then 0 else mb a set)) ?_ ?_ ?_ 0 (by omega)).1
  · intro n s hs
    simp only [fX12_askNext_27_s]
    unfold fX12_askNext_27b
    rw [rm_V h, sh_nI (by omega)]
    simp (disch := omega) only [lt_eq, bi_some, bv_some, ↓lim1, pk_m1f, fI_add1, li0, li1, li2, li3, li4, li5, li6, li7, li8, li9, li10, li12, li15, li16, li19, li20, li26, li30, li31, li32, li48, li57, li59, li60, li64, li99, li100, li128, li240, li255, li480, li999, li1000, li9000, li9999, liF, nI_add, sb_nI, pk_mul, dv_nI, cl_nI, inbT, le_nI, lt_nI, eq_nI, fI_le, fI_eq, st_ne, st_at, iT, iF, Nat.zero_add, Nat.add_zero, not_true_eq_false, not_false_eq_true, true_and, and_true, false_and, and_false, or_true, true_or, or_false, false_or, Nat.reduceEqDiff, Nat.reduceLeDiff, Nat.reduceLT, Nat.reduceAdd, Nat.reduceSub, Nat.reduceMul, Nat.reduceDiv, Nat.reduceMod, ↓reduceIte, Nat.le_refl]
  · intro n i s hi hs
    simp only [fX12_askNext_27_s]
    unfold fX12_askNext_27b fX12_askNext_63 fX12_askNext_64
    rw [rm_V h, sh_nI (by omega)]
    have := mb_01 a i
    simp (disch := omega) only [lt_eq, bi_some, bv_some, ↓lim1, pk_m1f, fI_add1, li0, li1, li2, li3, li4, li5, li6, li7, li8, li9, li10, li12, li15, li16, li19, li20, li26, li30, li31, li32, li48, li57, li59, li60, li64, li99, li100, li128, li240, li255, li480, li999, li1000, li9000, li9999, liF, nI_add, sb_nI, pk_mul, dv_nI, cl_nI, inbT, le_nI, lt_nI, eq_nI, fI_le, fI_eq, st_ne, st_at, iT, iF, Nat.zero_add, Nat.add_zero, not_true_eq_false, not_false_eq_true, true_and, and_true, false_and, and_false, or_true, true_or, or_false, false_or, Nat.reduceEqDiff, Nat.reduceLeDiff, Nat.reduceLT, Nat.reduceAdd, Nat.reduceSub, Nat.reduceMul, Nat.reduceDiv, Nat.reduceMod, ↓reduceIte, show ¬ 2 ^ a 0 3 ≤ i by omega, has_spec σ (show i < 128 by omega) (show v < 7 by omega)]
    rcases bt_01 i v with z | z
    · simp (disch := omega) only [lt_eq, bi_some, bv_some, ↓lim1, pk_m1f, fI_add1, li0, li1, li2, li3, li4, li5, li6, li7, li8, li9, li10, li12, li15, li16, li19, li20, li26, li30, li31, li32, li48, li57, li59, li60, li64, li99, li100, li128, li240, li255, li480, li999, li1000, li9000, li9999, liF, nI_add, sb_nI, pk_mul, dv_nI, cl_nI, inbT, le_nI, lt_nI, eq_nI, fI_le, fI_eq, st_ne, st_at, iT, iF, Nat.zero_add, Nat.add_zero, not_true_eq_false, not_false_eq_true, true_and, and_true, false_and, and_false, or_true, true_or, or_false, false_or, Nat.reduceEqDiff, Nat.reduceLeDiff, Nat.reduceLT, Nat.reduceAdd, Nat.reduceSub, Nat.reduceMul, Nat.reduceDiv, Nat.reduceMod, ↓reduceIte, z]
    · simp (disch := omega) only [lt_eq, bi_some, bv_some, ↓lim1, pk_m1f, fI_add1, li0, li1, li2, li3, li4, li5, li6, li7, li8, li9, li10, li12, li15, li16, li19, li20, li26, li30, li31, li32, li48, li57, li59, li60, li64, li99, li100, li128, li240, li255, li480, li999, li1000, li9000, li9999, liF, nI_add, sb_nI, pk_mul, dv_nI, cl_nI, inbT, le_nI, lt_nI, eq_nI, fI_le, fI_eq, st_ne, st_at, iT, iF, Nat.zero_add, Nat.add_zero, not_true_eq_false, not_false_eq_true, true_and, and_true, false_and, and_false, or_true, true_or, or_false, false_or, Nat.reduceEqDiff, Nat.reduceLeDiff, Nat.reduceLT, Nat.reduceAdd, Nat.reduceSub, Nat.reduceMul, Nat.reduceDiv, Nat.reduceMod, ↓reduceIte, z, mMay h g (show i < 16 by omega)]
      rcases (show mb a i = 0 ∨ mb a i = 1 by omega) with q | q
      · simp (disch := omega) only [lt_eq, bi_some, bv_some, ↓lim1, pk_m1f, fI_add1, li0, li1, li2, li3, li4, li5, li6, li7, li8, li9, li10, li12, li15, li16, li19, li20, li26, li30, li31, li32, li48, li57, li59, li60, li64, li99, li100, li128, li240, li255, li480, li999, li1000, li9000, li9999, liF, nI_add, sb_nI, pk_mul, dv_nI, cl_nI, inbT, le_nI, lt_nI, eq_nI, fI_le, fI_eq, st_ne, st_at, iT, iF, Nat.zero_add, Nat.add_zero, not_true_eq_false, not_false_eq_true, true_and, and_true, false_and, and_false, or_true, true_or, or_false, false_or, Nat.reduceEqDiff, Nat.reduceLeDiff, Nat.reduceLT, Nat.reduceAdd, Nat.reduceSub, Nat.reduceMul, Nat.reduceDiv, Nat.reduceMod, ↓reduceIte, q]
      · simp (disch := omega) only [lt_eq, bi_some, bv_some, ↓lim1, pk_m1f, fI_add1, li0, li1, li2, li3, li4, li5, li6, li7, li8, li9, li10, li12, li15, li16, li19, li20, li26, li30, li31, li32, li48, li57, li59, li60, li64, li99, li100, li128, li240, li255, li480, li999, li1000, li9000, li9999, liF, nI_add, sb_nI, pk_mul, dv_nI, cl_nI, inbT, le_nI, lt_nI, eq_nI, fI_le, fI_eq, st_ne, st_at, iT, iF, Nat.zero_add, Nat.add_zero, not_true_eq_false, not_false_eq_true, true_and, and_true, false_and, and_false, or_true, true_or, or_false, false_or, Nat.reduceEqDiff, Nat.reduceLeDiff, Nat.reduceLT, Nat.reduceAdd, Nat.reduceSub, Nat.reduceMul, Nat.reduceDiv, Nat.reduceMod, ↓reduceIte, q]
  · intro i s hi hs
    have := mb_01 a i
    show s + (if bt i v = 0 then 0 else mb a i) ≤ i + 1
    split <;> omega
theorem mAsk {a : Ab} {σ : Sg} (h : RelM a σ) (g : Gb a) : fX12_askNext σ = some (fI (ask a), σ) := by
  have hV := gb_V g
  have hm := mny_le g
  unfold fX12_askNext
  rw [mMany h g, bi_some, lt_eq, lim1, li0]
  refine (loop0 (fun n i (s : Nat × Nat) => fX12_askNext_12 n (fun σ_16 x2_16 => some (x2_16, σ_16)) σ (nI (mny a)) (fI s.1) (nI s.2) (nI i)) (a 0 3) (by omega) (fun s => some (fI s.1, σ)) (fun i s => s.2 ≤ 16) (fun v (s : Nat × Nat) => if (if wth a v ≤ mny a - wth a v then mny a - wth a v else wth a v) < s.2 then (v + 1, if wth a v ≤ mny a - wth a v then mny a - wth a v else wth a v) else s) ?_ ?_ ?_ (0, mny a) hm).1
  · intro n s hs
    simp only [fX12_askNext_12_s]
    unfold fX12_askNext_12b
    simp (disch := omega) only [lt_eq, bi_some, bv_some, ↓lim1, pk_m1f, fI_add1, li0, li1, li2, li3, li4, li5, li6, li7, li8, li9, li10, li12, li15, li16, li19, li20, li26, li30, li31, li32, li48, li57, li59, li60, li64, li99, li100, li128, li240, li255, li480, li999, li1000, li9000, li9999, liF, nI_add, sb_nI, pk_mul, dv_nI, cl_nI, inbT, le_nI, lt_nI, eq_nI, fI_le, fI_eq, st_ne, st_at, iT, iF, Nat.zero_add, Nat.add_zero, not_true_eq_false, not_false_eq_true, true_and, and_true, false_and, and_false, or_true, true_or, or_false, false_or, Nat.reduceEqDiff, Nat.reduceLeDiff, Nat.reduceLT, Nat.reduceAdd, Nat.reduceSub, Nat.reduceMul, Nat.reduceDiv, Nat.reduceMod, ↓reduceIte, rm_V h, Nat.le_refl]
  · intro n i s hi hs
    have hw := wth_le a i
    have m27 := fun x1 x2 x3 kx => mWth h g (v := i) (by omega) x1 x2 x3 kx
    rw [li0] at m27
    simp only [fX12_askNext_12_s]
    unfold fX12_askNext_12b
    simp (disch := omega) only [lt_eq, bi_some, bv_some, ↓lim1, pk_m1f, fI_add1, li0, li1, li2, li3, li4, li5, li6, li7, li8, li9, li10, li12, li15, li16, li19, li20, li26, li30, li31, li32, li48, li57, li59, li60, li64, li99, li100, li128, li240, li255, li480, li999, li1000, li9000, li9999, liF, nI_add, sb_nI, pk_mul, dv_nI, cl_nI, inbT, le_nI, lt_nI, eq_nI, fI_le, fI_eq, st_ne, st_at, iT, iF, Nat.zero_add, Nat.add_zero, not_true_eq_false, not_false_eq_true, true_and, and_true, false_and, and_false, or_true, true_or, or_false, false_or, Nat.reduceEqDiff, Nat.reduceLeDiff, Nat.reduceLT, Nat.reduceAdd, Nat.reduceSub, Nat.reduceMul, Nat.reduceDiv, Nat.reduceMod, ↓reduceIte, rm_V h, show ¬ a 0 3 ≤ i by omega, m27]
    unfold fX12_askNext_91 fX12_askNext_105 fX12_askNext_118
    by_cases q : wth a i ≤ mny a - wth a i
    · simp (disch := omega) only [lt_eq, bi_some, bv_some, ↓lim1, pk_m1f, fI_add1, li0, li1, li2, li3, li4, li5, li6, li7, li8, li9, li10, li12, li15, li16, li19, li20, li26, li30, li31, li32, li48, li57, li59, li60, li64, li99, li100, li128, li240, li255, li480, li999, li1000, li9000, li9999, liF, nI_add, sb_nI, pk_mul, dv_nI, cl_nI, inbT, le_nI, lt_nI, eq_nI, fI_le, fI_eq, st_ne, st_at, iT, iF, Nat.zero_add, Nat.add_zero, not_true_eq_false, not_false_eq_true, true_and, and_true, false_and, and_false, or_true, true_or, or_false, false_or, Nat.reduceEqDiff, Nat.reduceLeDiff, Nat.reduceLT, Nat.reduceAdd, Nat.reduceSub, Nat.reduceMul, Nat.reduceDiv, Nat.reduceMod, ↓reduceIte, q]
      by_cases z : mny a - wth a i < s.2
      · simp (disch := omega) only [lt_eq, bi_some, bv_some, ↓lim1, pk_m1f, fI_add1, li0, li1, li2, li3, li4, li5, li6, li7, li8, li9, li10, li12, li15, li16, li19, li20, li26, li30, li31, li32, li48, li57, li59, li60, li64, li99, li100, li128, li240, li255, li480, li999, li1000, li9000, li9999, liF, nI_add, sb_nI, pk_mul, dv_nI, cl_nI, inbT, le_nI, lt_nI, eq_nI, fI_le, fI_eq, st_ne, st_at, iT, iF, Nat.zero_add, Nat.add_zero, not_true_eq_false, not_false_eq_true, true_and, and_true, false_and, and_false, or_true, true_or, or_false, false_or, Nat.reduceEqDiff, Nat.reduceLeDiff, Nat.reduceLT, Nat.reduceAdd, Nat.reduceSub, Nat.reduceMul, Nat.reduceDiv, Nat.reduceMod, ↓reduceIte, z, show ¬ s.2 ≤ mny a - wth a i by omega, fI_s]
      · simp (disch := omega) only [lt_eq, bi_some, bv_some, ↓lim1, pk_m1f, fI_add1, li0, li1, li2, li3, li4, li5, li6, li7, li8, li9, li10, li12, li15, li16, li19, li20, li26, li30, li31, li32, li48, li57, li59, li60, li64, li99, li100, li128, li240, li255, li480, li999, li1000, li9000, li9999, liF, nI_add, sb_nI, pk_mul, dv_nI, cl_nI, inbT, le_nI, lt_nI, eq_nI, fI_le, fI_eq, st_ne, st_at, iT, iF, Nat.zero_add, Nat.add_zero, not_true_eq_false, not_false_eq_true, true_and, and_true, false_and, and_false, or_true, true_or, or_false, false_or, Nat.reduceEqDiff, Nat.reduceLeDiff, Nat.reduceLT, Nat.reduceAdd, Nat.reduceSub, Nat.reduceMul, Nat.reduceDiv, Nat.reduceMod, ↓reduceIte, z, show s.2 ≤ mny a - wth a i by omega]
    · simp (disch := omega) only [lt_eq, bi_some, bv_some, ↓lim1, pk_m1f, fI_add1, li0, li1, li2, li3, li4, li5, li6, li7, li8, li9, li10, li12, li15, li16, li19, li20, li26, li30, li31, li32, li48, li57, li59, li60, li64, li99, li100, li128, li240, li255, li480, li999, li1000, li9000, li9999, liF, nI_add, sb_nI, pk_mul, dv_nI, cl_nI, inbT, le_nI, lt_nI, eq_nI, fI_le, fI_eq, st_ne, st_at, iT, iF, Nat.zero_add, Nat.add_zero, not_true_eq_false, not_false_eq_true, true_and, and_true, false_and, and_false, or_true, true_or, or_false, false_or, Nat.reduceEqDiff, Nat.reduceLeDiff, Nat.reduceLT, Nat.reduceAdd, Nat.reduceSub, Nat.reduceMul, Nat.reduceDiv, Nat.reduceMod, ↓reduceIte, q]
      by_cases z : wth a i < s.2
      · simp (disch := omega) only [lt_eq, bi_some, bv_some, ↓lim1, pk_m1f, fI_add1, li0, li1, li2, li3, li4, li5, li6, li7, li8, li9, li10, li12, li15, li16, li19, li20, li26, li30, li31, li32, li48, li57, li59, li60, li64, li99, li100, li128, li240, li255, li480, li999, li1000, li9000, li9999, liF, nI_add, sb_nI, pk_mul, dv_nI, cl_nI, inbT, le_nI, lt_nI, eq_nI, fI_le, fI_eq, st_ne, st_at, iT, iF, Nat.zero_add, Nat.add_zero, not_true_eq_false, not_false_eq_true, true_and, and_true, false_and, and_false, or_true, true_or, or_false, false_or, Nat.reduceEqDiff, Nat.reduceLeDiff, Nat.reduceLT, Nat.reduceAdd, Nat.reduceSub, Nat.reduceMul, Nat.reduceDiv, Nat.reduceMod, ↓reduceIte, z, show ¬ s.2 ≤ wth a i by omega, fI_s]
      · simp (disch := omega) only [lt_eq, bi_some, bv_some, ↓lim1, pk_m1f, fI_add1, li0, li1, li2, li3, li4, li5, li6, li7, li8, li9, li10, li12, li15, li16, li19, li20, li26, li30, li31, li32, li48, li57, li59, li60, li64, li99, li100, li128, li240, li255, li480, li999, li1000, li9000, li9999, liF, nI_add, sb_nI, pk_mul, dv_nI, cl_nI, inbT, le_nI, lt_nI, eq_nI, fI_le, fI_eq, st_ne, st_at, iT, iF, Nat.zero_add, Nat.add_zero, not_true_eq_false, not_false_eq_true, true_and, and_true, false_and, and_false, or_true, true_or, or_false, false_or, Nat.reduceEqDiff, Nat.reduceLeDiff, Nat.reduceLT, Nat.reduceAdd, Nat.reduceSub, Nat.reduceMul, Nat.reduceDiv, Nat.reduceMod, ↓reduceIte, z, show s.2 ≤ wth a i by omega]
  · intro i s hi hs
    have hw := wth_le a i
    show (if (if wth a i ≤ mny a - wth a i then mny a - wth a i else wth a i) < s.2 then (i + 1, if wth a i ≤ mny a - wth a i then mny a - wth a i else wth a i) else s).2 ≤ 16
    by_cases z : (if wth a i ≤ mny a - wth a i then mny a - wth a i else wth a i) < s.2
    · rw [if_pos z]; show (if wth a i ≤ mny a - wth a i then mny a - wth a i else wth a i) ≤ 16; omega
    · rw [if_neg z]; exact hs
