/-! the class: the ring -/
theorem nI_ne1 {q : Nat} (h : q < 1000000) : ¬ nI q = -1 := by
  rw [← fI_s, lim1, fI_eq (by omega) (by omega)]
  omega
def cwk (frm : Nat → Nat) : Nat → Nat → Nat
  | 0, y => y
  | d + 1, y => if y = 0 then 0 else cwk frm d (frm (y - 1))
def fs (frm : Nat → Nat) : Nat → Nat → Nat
  | 0, _ => 0
  | d + 1, p => if frm p = 0 then p + 1 else fs frm d (frm p - 1)
theorem cwk_0 (frm : Nat → Nat) : ∀ d, cwk frm d 0 = 0 := by
  intro d
  cases d with
  | zero => rfl
  | succ d => unfold cwk; rw [if_pos rfl]
theorem walk3 (frm : Nat → Nat) : ∀ d p, ((∀ j, j < d → frm (itf frm j p) ≠ 0) ∧ cwk frm d (p + 1) = itf frm d p + 1 ∧ wk frm d p = itf frm d p ∧ fs frm d p = 0) ∨ (cwk frm d (p + 1) = 0 ∧ frm (wk frm d p) = 0 ∧ fs frm d p = wk frm d p + 1) := by
  intro d
  induction d with
  | zero => intro p; exact Or.inl ⟨fun j hj => by omega, rfl, rfl, rfl⟩
  | succ d ih =>
    intro p
    have e1 : cwk frm (d + 1) (p + 1) = cwk frm d (frm p) := by
      show (if p + 1 = 0 then 0 else cwk frm d (frm (p + 1 - 1))) = _
      rw [if_neg (by omega), Nat.add_sub_cancel]
    have e2 : wk frm (d + 1) p = if frm p = 0 then p else wk frm d (frm p - 1) := rfl
    have e3 : fs frm (d + 1) p = if frm p = 0 then p + 1 else fs frm d (frm p - 1) := rfl
    rw [e1, e2, e3]
    by_cases q : frm p = 0
    · rw [if_pos q, if_pos q, q, cwk_0]
      exact Or.inr ⟨rfl, rfl, rfl⟩
    · rw [if_neg q, if_neg q]
      have i1 := ih (frm p - 1)
      rw [show frm p - 1 + 1 = frm p by omega] at i1
      rcases i1 with ⟨a1, a2, a3, a4⟩ | ⟨a1, a2, a3⟩
      · refine Or.inl ⟨fun j hj => ?_, a2, a3, a4⟩
        cases j with
        | zero => exact q
        | succ j => exact a1 j (by omega)
      · exact Or.inr ⟨a1, a2, a3⟩
theorem itf_lt {frm : Nat → Nat} {P : Nat} (hf : ∀ p, p < P → frm p ≤ P) : ∀ d p, p < P → (∀ j, j < d → frm (itf frm j p) ≠ 0) → itf frm d p < P := by
  intro d
  induction d with
  | zero => intro p hp _; exact hp
  | succ d ih =>
    intro p hp h
    have h0 := h 0 (by omega)
    have h0 : frm p ≠ 0 := h0
    have := hf p hp
    exact ih (frm p - 1) (by omega) (fun j hj => h (j + 1) (by omega))
theorem walk_end {frm : Nat → Nat} {P p : Nat} (hf : ∀ p, p < P → frm p ≤ P) (hp : p < P) (h : ∀ j, j < P → frm (itf frm j p) ≠ 0) : frm (itf frm P p) ≠ 0 := by
  intro hz
  have hl : ∀ j, j ≤ P → itf frm j p < P := fun j hj => itf_lt hf j p hp (fun i hi => h i (by omega))
  obtain ⟨i, j, h1, h2, h3⟩ := php P (fun j => itf frm j p) hl
  have h3 : itf frm i p = itf frm j p := h3
  have e1 : itf frm P p = itf frm (P - j) (itf frm j p) := by rw [← itf_add, show P - j + j = P by omega]
  have e2 : itf frm (P - j + i) p = itf frm (P - j) (itf frm i p) := itf_add frm (P - j) i p
  rw [h3, ← e1] at e2
  have := h (P - j + i) (by omega)
  rw [e2] at this
  exact this hz
theorem cwk_is {frm : Nat → Nat} {P p : Nat} (hf : ∀ p, p < P → frm p ≤ P) (hp : p < P) : (cwk frm P (p + 1) = if frm (wk frm P p) = 0 then 0 else wk frm P p + 1) ∧ fs frm P p = if frm (wk frm P p) = 0 then wk frm P p + 1 else 0 := by
  rcases walk3 frm P p with ⟨a1, a2, a3, a4⟩ | ⟨a1, a2, a3⟩
  · have := walk_end hf hp a1
    rw [← a3] at this
    rw [if_neg this, if_neg this, a2, a4, a3]
    exact ⟨rfl, rfl⟩
  · rw [if_pos a2, if_pos a2]
    exact ⟨a1, a3⟩
theorem cRing4 {a : Ab} {h : Nat} {σ : Sg} (x : Hl a h σ) (g : Gb a) (kx : Sg → Int32 → Option (Int32 × Sg)) : ∀ (d i y fu : Nat), i + d = a 0 4 → d < fu → y ≤ a 0 4 → fX4_ringOf_4 h fu kx σ (fI y) (nI i) = kx σ (fI (cwk (a 3) d y)) := by
  have hP := gb_P g
  intro d
  induction d with
  | zero =>
    intro i y fu h1 h2 hy
    cases fu with
    | zero => omega
    | succ fu =>
      rw [fX4_ringOf_4_s]
      unfold fX4_ringOf_4b cwk
      rw [hl_P x]
      simp (disch := omega) only [lt_eq, bi_some, bv_some, ↓lim1, pk_m1f, fI_add1, li0, li1, li2, li3, li4, li5, li6, li7, li8, li9, li10, li12, li15, li16, li19, li20, li26, li30, li31, li32, li48, li57, li59, li60, li64, li99, li100, li128, li240, li255, li480, li999, li1000, li9000, li9999, liF, nI_add, sb_nI, pk_mul, dv_nI, cl_nI, inbT, le_nI, lt_nI, eq_nI, fI_le, fI_eq, st_ne, st_at, iT, iF, Nat.zero_add, Nat.add_zero, not_true_eq_false, not_false_eq_true, true_and, and_true, false_and, and_false, or_true, true_or, or_false, false_or, Nat.reduceEqDiff, Nat.reduceLeDiff, Nat.reduceLT, Nat.reduceAdd, Nat.reduceSub, Nat.reduceMul, Nat.reduceDiv, Nat.reduceMod, ↓reduceIte, show a 0 4 ≤ i by omega]
  | succ d ih =>
    intro i y fu h1 h2 hy
    cases fu with
    | zero => omega
    | succ fu =>
      rw [fX4_ringOf_4_s]
      unfold fX4_ringOf_4b cwk
      rw [hl_P x]
      simp (disch := omega) only [lt_eq, bi_some, bv_some, ↓lim1, pk_m1f, fI_add1, li0, li1, li2, li3, li4, li5, li6, li7, li8, li9, li10, li12, li15, li16, li19, li20, li26, li30, li31, li32, li48, li57, li59, li60, li64, li99, li100, li128, li240, li255, li480, li999, li1000, li9000, li9999, liF, nI_add, sb_nI, pk_mul, dv_nI, cl_nI, inbT, le_nI, lt_nI, eq_nI, fI_le, fI_eq, st_ne, st_at, iT, iF, Nat.zero_add, Nat.add_zero, not_true_eq_false, not_false_eq_true, true_and, and_true, false_and, and_false, or_true, true_or, or_false, false_or, Nat.reduceEqDiff, Nat.reduceLeDiff, Nat.reduceLT, Nat.reduceAdd, Nat.reduceSub, Nat.reduceMul, Nat.reduceDiv, Nat.reduceMod, ↓reduceIte, show ¬ a 0 4 ≤ i by omega]
      by_cases q : y = 0
      · rw [if_pos q, if_pos q, q]
      · have hp : y - 1 < a 0 4 := by omega
        have hfr := gb_from g hp
        rw [if_neg q, if_neg q, fI_p q]
        simp (disch := omega) only [lt_eq, bi_some, bv_some, ↓lim1, pk_m1f, fI_add1, li0, li1, li2, li3, li4, li5, li6, li7, li8, li9, li10, li12, li15, li16, li19, li20, li26, li30, li31, li32, li48, li57, li59, li60, li64, li99, li100, li128, li240, li255, li480, li999, li1000, li9000, li9999, liF, nI_add, sb_nI, pk_mul, dv_nI, cl_nI, inbT, le_nI, lt_nI, eq_nI, fI_le, fI_eq, st_ne, st_at, iT, iF, Nat.zero_add, Nat.add_zero, not_true_eq_false, not_false_eq_true, true_and, and_true, false_and, and_false, or_true, true_or, or_false, false_or, Nat.reduceEqDiff, Nat.reduceLeDiff, Nat.reduceLT, Nat.reduceAdd, Nat.reduceSub, Nat.reduceMul, Nat.reduceDiv, Nat.reduceMod, ↓reduceIte, hl_from x hp]
        exact ih (i + 1) _ fu (by omega) (by omega) hfr
theorem cRing47 {a : Ab} {h : Nat} {σ : Sg} (x : Hl a h σ) (g : Gb a) (kx : Sg → Int32 → Option (Int32 × Sg)) {X : Nat} (hX : X < 7) : ∀ (d q n fu : Nat), d < fu → n + d ≤ a 0 4 + 1 → q < 7 → (∃ k, k < d ∧ itf (a 3) k q = X ∧ ∀ j, j < k → a 3 (itf (a 3) j q) ≠ 0 ∧ itf (a 3) j q < a 0 4) → fX4_ringOf_47 h fu kx σ (nI X) (nI n) (nI q) = kx σ (nI (rc (a 3) X d n q)) := by
  have hP := gb_P g
  intro d
  induction d with
  | zero => intro q n fu _ _ _ ⟨k, hk, _⟩; omega
  | succ d ih =>
    intro q n fu h1 h2 hq ⟨k, hk, k1, k2⟩
    cases fu with
    | zero => omega
    | succ fu =>
      rw [fX4_ringOf_47_s]
      unfold fX4_ringOf_47b rc
      rw [hl_P x]
      simp (disch := omega) only [lt_eq, bi_some, bv_some, ↓lim1, pk_m1f, fI_add1, li0, li1, li2, li3, li4, li5, li6, li7, li8, li9, li10, li12, li15, li16, li19, li20, li26, li30, li31, li32, li48, li57, li59, li60, li64, li99, li100, li128, li240, li255, li480, li999, li1000, li9000, li9999, liF, nI_add, sb_nI, pk_mul, dv_nI, cl_nI, inbT, le_nI, lt_nI, eq_nI, fI_le, fI_eq, st_ne, st_at, iT, iF, Nat.zero_add, Nat.add_zero, not_true_eq_false, not_false_eq_true, true_and, and_true, false_and, and_false, or_true, true_or, or_false, false_or, Nat.reduceEqDiff, Nat.reduceLeDiff, Nat.reduceLT, Nat.reduceAdd, Nat.reduceSub, Nat.reduceMul, Nat.reduceDiv, Nat.reduceMod, ↓reduceIte]
      by_cases z : q = X
      · rw [if_pos z, if_pos z]
      · cases k with
        | zero => exact absurd k1 z
        | succ k =>
          have k0 := k2 0 (by omega)
          have f0 : a 3 q ≠ 0 := k0.1
          have q0 : q < a 0 4 := k0.2
          have hfr := gb_from g q0
          rw [if_neg z, if_neg z, if_neg (show ¬ nI q = fI 0 by rw [← lim1]; exact nI_ne1 (by omega))]
          simp (disch := omega) only [lt_eq, bi_some, bv_some, ↓lim1, pk_m1f, fI_add1, li0, li1, li2, li3, li4, li5, li6, li7, li8, li9, li10, li12, li15, li16, li19, li20, li26, li30, li31, li32, li48, li57, li59, li60, li64, li99, li100, li128, li240, li255, li480, li999, li1000, li9000, li9999, liF, nI_add, sb_nI, pk_mul, dv_nI, cl_nI, inbT, le_nI, lt_nI, eq_nI, fI_le, fI_eq, st_ne, st_at, iT, iF, Nat.zero_add, Nat.add_zero, not_true_eq_false, not_false_eq_true, true_and, and_true, false_and, and_false, or_true, true_or, or_false, false_or, Nat.reduceEqDiff, Nat.reduceLeDiff, Nat.reduceLT, Nat.reduceAdd, Nat.reduceSub, Nat.reduceMul, Nat.reduceDiv, Nat.reduceMod, ↓reduceIte, show ¬ a 0 4 ≤ n by omega, hl_from x q0]
          rw [fI_p f0]
          exact ih (a 3 q - 1) (n + 1) fu (by omega) (by omega) (by omega) ⟨k, by omega, k1, fun j hj => k2 (j + 1) (by omega)⟩
theorem cRing {a : Ab} {h : Nat} {σ : Sg} (x : Hl a h σ) (g : Gb a) {p : Nat} (hp : p < a 0 4) : fX4_ringOf h σ (nI p) = some (fI (rng a p), σ) := by
  have hP := gb_P g
  have hf : ∀ p, p < a 0 4 → a 3 p ≤ a 0 4 := fun p hp => gb_from g hp
  have hw := wk_lt hf (a 0 4) p hp
  unfold fX4_ringOf
  rw [show nI p = fI (p + 1) from (fI_s p).symm, li0, cRing4 x g _ (a 0 4) 0 (p + 1) FU (by omega) (by have := FU_ge; omega) (by omega), (cwk_is hf hp).1]
  unfold fX4_ringOf_30 fX4_ringOf_82 rng
  by_cases q : a 3 (wk (a 3) (a 0 4) p) = 0
  · rw [if_pos q, if_pos q, if_pos (by decide)]; rfl
  · obtain ⟨k, k1, k2, k3⟩ := ring_ret hf hp q
    rw [if_neg q, if_neg q, fI_s]
    generalize wk (a 3) (a 0 4) p = X at hw q k2 k3 ⊢
    have hfr := gb_from g hw
    rw [if_neg (nI_ne1 (by omega))]
    simp (disch := omega) only [lt_eq, bi_some, bv_some, ↓lim1, pk_m1f, fI_add1, li0, li1, li2, li3, li4, li5, li6, li7, li8, li9, li10, li12, li15, li16, li19, li20, li26, li30, li31, li32, li48, li57, li59, li60, li64, li99, li100, li128, li240, li255, li480, li999, li1000, li9000, li9999, liF, nI_add, sb_nI, pk_mul, dv_nI, cl_nI, inbT, le_nI, lt_nI, eq_nI, fI_le, fI_eq, st_ne, st_at, iT, iF, Nat.zero_add, Nat.add_zero, not_true_eq_false, not_false_eq_true, true_and, and_true, false_and, and_false, or_true, true_or, or_false, false_or, Nat.reduceEqDiff, Nat.reduceLeDiff, Nat.reduceLT, Nat.reduceAdd, Nat.reduceSub, Nat.reduceMul, Nat.reduceDiv, Nat.reduceMod, ↓reduceIte, hl_from x hw]
    rw [fI_p q, cRing47 x g _ (by omega) (a 0 4) (a 3 X - 1) 1 FU (by have := FU_ge; omega) (by omega) (by omega) ⟨k, k1, k2, fun j hj => k3 (j + 1) (by omega)⟩, fI_s]
theorem cFirst_loop {a : Ab} {h : Nat} {σ : Sg} (x : Hl a h σ) (g : Gb a) : ∀ (d i p fu : Nat), i + d = a 0 4 → d < fu → p < a 0 4 → fX4_firstOf_4 h fu (fun σ_7 => some ((-1), σ_7)) σ (nI p) (nI i) = some (fI (fs (a 3) d p), σ) := by
  have hP := gb_P g
  intro d
  induction d with
  | zero =>
    intro i p fu h1 h2 hp
    cases fu with
    | zero => omega
    | succ fu =>
      rw [fX4_firstOf_4_s]
      unfold fX4_firstOf_4b fs
      rw [hl_P x]
      simp (disch := omega) only [lt_eq, bi_some, bv_some, ↓lim1, pk_m1f, fI_add1, li0, li1, li2, li3, li4, li5, li6, li7, li8, li9, li10, li12, li15, li16, li19, li20, li26, li30, li31, li32, li48, li57, li59, li60, li64, li99, li100, li128, li240, li255, li480, li999, li1000, li9000, li9999, liF, nI_add, sb_nI, pk_mul, dv_nI, cl_nI, inbT, le_nI, lt_nI, eq_nI, fI_le, fI_eq, st_ne, st_at, iT, iF, Nat.zero_add, Nat.add_zero, not_true_eq_false, not_false_eq_true, true_and, and_true, false_and, and_false, or_true, true_or, or_false, false_or, Nat.reduceEqDiff, Nat.reduceLeDiff, Nat.reduceLT, Nat.reduceAdd, Nat.reduceSub, Nat.reduceMul, Nat.reduceDiv, Nat.reduceMod, ↓reduceIte, show a 0 4 ≤ i by omega]
  | succ d ih =>
    intro i p fu h1 h2 hp
    cases fu with
    | zero => omega
    | succ fu =>
      have hfr := gb_from g hp
      rw [fX4_firstOf_4_s]
      unfold fX4_firstOf_4b fs
      rw [hl_P x]
      simp (disch := omega) only [lt_eq, bi_some, bv_some, ↓lim1, pk_m1f, fI_add1, li0, li1, li2, li3, li4, li5, li6, li7, li8, li9, li10, li12, li15, li16, li19, li20, li26, li30, li31, li32, li48, li57, li59, li60, li64, li99, li100, li128, li240, li255, li480, li999, li1000, li9000, li9999, liF, nI_add, sb_nI, pk_mul, dv_nI, cl_nI, inbT, le_nI, lt_nI, eq_nI, fI_le, fI_eq, st_ne, st_at, iT, iF, Nat.zero_add, Nat.add_zero, not_true_eq_false, not_false_eq_true, true_and, and_true, false_and, and_false, or_true, true_or, or_false, false_or, Nat.reduceEqDiff, Nat.reduceLeDiff, Nat.reduceLT, Nat.reduceAdd, Nat.reduceSub, Nat.reduceMul, Nat.reduceDiv, Nat.reduceMod, ↓reduceIte, show ¬ a 0 4 ≤ i by omega, hl_from x hp]
      by_cases q : a 3 p = 0
      · rw [if_pos q, if_pos q, fI_s]
      · rw [if_neg q, if_neg q, fI_p q]
        exact ih (i + 1) _ fu (by omega) (by omega) (by omega)
theorem cFirst {a : Ab} {h : Nat} {σ : Sg} (x : Hl a h σ) (g : Gb a) {p : Nat} (hp : p < a 0 4) : fX4_firstOf h σ (nI p) = some (fI (fst a p), σ) := by
  have hP := gb_P g
  have hf : ∀ p, p < a 0 4 → a 3 p ≤ a 0 4 := fun p hp => gb_from g hp
  unfold fX4_firstOf
  rw [li0, cFirst_loop x g (a 0 4) 0 p FU (by omega) (by have := FU_ge; omega) hp, (cwk_is hf hp).2]
  rfl
