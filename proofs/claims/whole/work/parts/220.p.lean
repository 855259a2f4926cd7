/-! the reference: the ring -/
/-- more pigeons than holes -/
theorem php : ∀ (P : Nat) (f : Nat → Nat), (∀ i, i ≤ P → f i < P) → ∃ i j, i < j ∧ j ≤ P ∧ f i = f j := by
  intro P
  induction P with
  | zero => intro f h; have := h 0 (Nat.le_refl _); omega
  | succ P ih =>
    intro f h
    rcases Classical.em (∃ i, i ≤ P ∧ f i = f (P + 1)) with ⟨i, h1, h2⟩ | hn
    · exact ⟨i, P + 1, by omega, Nat.le_refl _, h2⟩
    · have hv := h (P + 1) (Nat.le_refl _)
      obtain ⟨i, j, h1, h2, h3⟩ := ih (fun i => if f i > f (P + 1) then f i - 1 else f i) (by
        intro i hi
        have h4 := h i (by omega)
        have h5 : f i ≠ f (P + 1) := fun e => hn ⟨i, hi, e⟩
        show (if f i > f (P + 1) then f i - 1 else f i) < P
        split <;> omega)
      have h4 : f i ≠ f (P + 1) := fun e => hn ⟨i, by omega, e⟩
      have h5 : f j ≠ f (P + 1) := fun e => hn ⟨j, h2, e⟩
      refine ⟨i, j, h1, by omega, ?_⟩
      have h3 : (if f i > f (P + 1) then f i - 1 else f i) = (if f j > f (P + 1) then f j - 1 else f j) := h3
      split at h3 <;> split at h3 <;> omega
/-- i steps on -/
def itf (frm : Nat → Nat) : Nat → Nat → Nat
  | 0, p => p
  | i + 1, p => itf frm i (frm p - 1)
theorem itf_s (frm : Nat → Nat) : ∀ i p, itf frm (i + 1) p = frm (itf frm i p) - 1 := by
  intro i
  induction i with
  | zero => intro p; rfl
  | succ i ih => intro p; exact ih (frm p - 1)
theorem itf_add (frm : Nat → Nat) : ∀ i j p, itf frm (i + j) p = itf frm i (itf frm j p) := by
  intro i
  induction i with
  | zero => intro j p; rw [Nat.zero_add]; rfl
  | succ i ih => intro j p; rw [show i + 1 + j = (i + j) + 1 by omega, itf_s, ih, itf_s]
/-- d steps on, as far as there is one -/
def wk (frm : Nat → Nat) : Nat → Nat → Nat
  | 0, p => p
  | d + 1, p => if frm p = 0 then p else wk frm d (frm p - 1)
theorem wk_it (frm : Nat → Nat) : ∀ d p, frm (wk frm d p) ≠ 0 → wk frm d p = itf frm d p ∧ ∀ j, j ≤ d → frm (itf frm j p) ≠ 0 := by
  intro d
  induction d with
  | zero =>
    intro p h
    refine ⟨rfl, fun j hj => ?_⟩
    rw [show j = 0 by omega]
    exact h
  | succ d ih =>
    intro p h
    unfold wk at h ⊢
    by_cases q : frm p = 0
    · rw [if_pos q] at h; exact absurd q h
    · rw [if_neg q] at h ⊢
      obtain ⟨h1, h2⟩ := ih (frm p - 1) h
      refine ⟨h1, fun j hj => ?_⟩
      cases j with
      | zero => exact q
      | succ j => exact h2 j (by omega)
theorem wk_lt {frm : Nat → Nat} {P : Nat} (hf : ∀ p, p < P → frm p ≤ P) : ∀ d p, p < P → wk frm d p < P := by
  intro d
  induction d with
  | zero => intro p hp; exact hp
  | succ d ih =>
    intro p hp
    unfold wk
    by_cases q : frm p = 0
    · rw [if_pos q]; exact hp
    · rw [if_neg q]
      have := hf p hp
      exact ih _ (by omega)
/-- one that has gone on as often as there are persons is in a ring -/
theorem ring_ret {frm : Nat → Nat} {P p : Nat} (hf : ∀ p, p < P → frm p ≤ P) (hp : p < P) (h : frm (wk frm P p) ≠ 0) : ∃ k, k < P ∧ itf frm (k + 1) (wk frm P p) = wk frm P p ∧ ∀ j, j ≤ k → frm (itf frm j (wk frm P p)) ≠ 0 ∧ itf frm j (wk frm P p) < P := by
  obtain ⟨e, hn⟩ := wk_it frm P p h
  have hlt : ∀ j, j ≤ P → itf frm j p < P := by
    intro j
    induction j with
    | zero => intro _; exact hp
    | succ j ih =>
      intro hj
      have h1 := ih (by omega)
      have h2 := hf _ h1
      have h3 := hn j (by omega)
      rw [itf_s]
      omega
  obtain ⟨i, j, h1, h2, h3⟩ := php P (fun i => itf frm i p) hlt
  have h3 : itf frm i p = itf frm j p := h3
  have per : ∀ t, itf frm (i + t + (j - i)) p = itf frm (i + t) p := by
    intro t
    rw [show i + t + (j - i) = t + j by omega, show i + t = t + i by omega, itf_add, itf_add, h3]
  have good : ∀ t, ∃ u, u ≤ P ∧ itf frm (i + t) p = itf frm u p := by
    intro t
    induction t using Nat.strongRecOn with
    | _ t ih =>
      by_cases q : t < j - i
      · exact ⟨i + t, by omega, rfl⟩
      · obtain ⟨u, hu, e2⟩ := ih (t - (j - i)) (by omega)
        refine ⟨u, hu, ?_⟩
        rw [← e2, ← per (t - (j - i)), show i + (t - (j - i)) + (j - i) = i + t by omega]
  refine ⟨j - i - 1, by omega, ?_, fun m hm => ?_⟩
  · rw [e, ← itf_add, show j - i - 1 + 1 + P = i + (P - i) + (j - i) by omega, per, show i + (P - i) = P by omega]
  · obtain ⟨u, hu, e2⟩ := good (P - i + m)
    rw [show i + (P - i + m) = m + P by omega, itf_add, ← e] at e2
    rw [e2]
    exact ⟨hn u hu, hlt u hu⟩
/-- how long the ring is: n behind, at q -/
def rc (frm : Nat → Nat) (x : Nat) : Nat → Nat → Nat → Nat
  | 0, n, _ => n
  | d + 1, n, q => if q = x then n else rc frm x d (n + 1) (frm q - 1)
def rng (a : Ab) (p : Nat) : Nat := if a 3 (wk (a 3) (a 0 4) p) = 0 then 0 else rc (a 3) (wk (a 3) (a 0 4) p) (a 0 4) 1 (a 3 (wk (a 3) (a 0 4) p) - 1) + 1
def fst (a : Ab) (p : Nat) : Nat := if a 3 (wk (a 3) (a 0 4) p) = 0 then wk (a 3) (a 0 4) p + 1 else 0
theorem fI_p {n : Nat} (h : n ≠ 0) : fI n = nI (n - 1) := by unfold fI; rw [if_neg h]
theorem mRing62 {a : Ab} {σ : Sg} (h : RelM a σ) (g : Gb a) (kx : Sg → Int32 → Option (Int32 × Sg)) {x : Nat} (hx : x < 7) : ∀ (d q n fu : Nat), d < fu → n + d ≤ 100 → q < 7 → (∃ k, k < d ∧ itf (a 3) k q = x ∧ ∀ j, j < k → a 3 (itf (a 3) j q) ≠ 0 ∧ itf (a 3) j q < a 0 4) → fX12_ringOf_62 fu kx σ (nI x) (nI n) (nI q) = kx σ (nI (rc (a 3) x d n q)) := by
  have hP := gb_P g
  intro d
  induction d with
  | zero => intro q n fu _ _ _ ⟨k, hk, _⟩; omega
  | succ d ih =>
    intro q n fu h1 h2 hq ⟨k, hk, e, hg⟩
    cases fu with
    | zero => omega
    | succ fu =>
      rw [fX12_ringOf_62_s]
      unfold fX12_ringOf_62b rc
      by_cases z : q = x
      · simp (disch := omega) only [lt_eq, bi_some, bv_some, ↓lim1, pk_m1f, fI_add1, li0, li1, li2, li3, li4, li5, li6, li7, li8, li9, li10, li12, li15, li16, li19, li20, li26, li30, li31, li32, li48, li57, li59, li60, li64, li99, li100, li128, li240, li255, li480, li999, li1000, li9000, li9999, liF, nI_add, sb_nI, pk_mul, dv_nI, cl_nI, inbT, le_nI, lt_nI, eq_nI, fI_le, fI_eq, st_ne, st_at, iT, iF, Nat.zero_add, Nat.add_zero, not_true_eq_false, not_false_eq_true, true_and, and_true, false_and, and_false, or_true, true_or, or_false, false_or, Nat.reduceEqDiff, Nat.reduceLeDiff, Nat.reduceLT, Nat.reduceAdd, Nat.reduceSub, Nat.reduceMul, Nat.reduceDiv, Nat.reduceMod, ↓reduceIte, z]
      · cases k with
        | zero => exact absurd e z
        | succ k =>
          have h0 := hg 0 (by omega)
          have h0a : a 3 q ≠ 0 := h0.1
          have h0b : q < a 0 4 := h0.2
          have hfr := gb_from g h0b
          simp (disch := omega) only [lt_eq, bi_some, bv_some, ↓lim1, pk_m1f, fI_add1, li0, li1, li2, li3, li4, li5, li6, li7, li8, li9, li10, li12, li15, li16, li19, li20, li26, li30, li31, li32, li48, li57, li59, li60, li64, li99, li100, li128, li240, li255, li480, li999, li1000, li9000, li9999, liF, nI_add, sb_nI, pk_mul, dv_nI, cl_nI, inbT, le_nI, lt_nI, eq_nI, fI_le, fI_eq, st_ne, st_at, iT, iF, Nat.zero_add, Nat.add_zero, not_true_eq_false, not_false_eq_true, true_and, and_true, false_and, and_false, or_true, true_or, or_false, false_or, Nat.reduceEqDiff, Nat.reduceLeDiff, Nat.reduceLT, Nat.reduceAdd, Nat.reduceSub, Nat.reduceMul, Nat.reduceDiv, Nat.reduceMod, ↓reduceIte, z, rm_from h h0b, fI_p h0a]
          exact ih (a 3 q - 1) (n + 1) fu (by omega) (by omega) (by omega) ⟨k, by omega, e, fun j hj => hg (j + 1) (by omega)⟩
theorem mRing35 {a : Ab} {σ : Sg} (h : RelM a σ) (g : Gb a) {p : Nat} (hp : p < a 0 4) : fX12_ringOf_35 σ (nI (wk (a 3) (a 0 4) p)) = some (fI (rng a p), st σ 132 24 (nI (wk (a 3) (a 0 4) p))) := by
  have hP := gb_P g
  have hf : ∀ p, p < a 0 4 → a 3 p ≤ a 0 4 := fun p hp => gb_from g hp
  have hl := wk_lt hf (a 0 4) p hp
  have rr := ring_ret hf hp
  unfold fX12_ringOf_35 rng
  generalize hX : wk (a 3) (a 0 4) p = x at hl rr ⊢
  have h2 : RelM a (st σ 132 24 (nI x)) := Sm.rel (Sm.st rfl) h
  have hfr := gb_from g hl
  simp (disch := omega) only [lt_eq, bi_some, bv_some, ↓lim1, pk_m1f, fI_add1, li0, li1, li2, li3, li4, li5, li6, li7, li8, li9, li10, li12, li15, li16, li19, li20, li26, li30, li31, li32, li48, li57, li59, li60, li64, li99, li100, li128, li240, li255, li480, li999, li1000, li9000, li9999, liF, nI_add, sb_nI, pk_mul, dv_nI, cl_nI, inbT, le_nI, lt_nI, eq_nI, fI_le, fI_eq, st_ne, st_at, iT, iF, Nat.zero_add, Nat.add_zero, not_true_eq_false, not_false_eq_true, true_and, and_true, false_and, and_false, or_true, true_or, or_false, false_or, Nat.reduceEqDiff, Nat.reduceLeDiff, Nat.reduceLT, Nat.reduceAdd, Nat.reduceSub, Nat.reduceMul, Nat.reduceDiv, Nat.reduceMod, ↓reduceIte, rm_from h hl]
  by_cases q : a 3 x = 0
  · rw [if_pos q, if_pos q]
  · obtain ⟨k, hk, e, hg⟩ := rr q
    rw [if_neg q, if_neg q, fI_p q, fI_s]
    refine mRing62 h2 g _ (show x < 7 by omega) (a 0 4) (a 3 x - 1) 1 FU (by have := FU_ge; omega) (by omega) (by omega) ⟨k, hk, e, fun j hj => ?_⟩
    exact hg (j + 1) (by omega)
theorem mRing4 {a : Ab} {σ : Sg} (h : RelM a σ) (g : Gb a) (kx : Sg → Int32 → Option (Int32 × Sg)) : ∀ (d i p fu : Nat), i + d = a 0 4 → d < fu → p < a 0 4 → fX12_ringOf_4 fu kx σ (nI p) (nI i) = kx σ (nI (wk (a 3) d p)) := by
  have hP := gb_P g
  intro d
  induction d with
  | zero =>
    intro i p fu h1 h2 hp
    cases fu with
    | zero => omega
    | succ fu =>
      rw [fX12_ringOf_4_s]
      unfold fX12_ringOf_4b wk
      simp (disch := omega) only [lt_eq, bi_some, bv_some, ↓lim1, pk_m1f, fI_add1, li0, li1, li2, li3, li4, li5, li6, li7, li8, li9, li10, li12, li15, li16, li19, li20, li26, li30, li31, li32, li48, li57, li59, li60, li64, li99, li100, li128, li240, li255, li480, li999, li1000, li9000, li9999, liF, nI_add, sb_nI, pk_mul, dv_nI, cl_nI, inbT, le_nI, lt_nI, eq_nI, fI_le, fI_eq, st_ne, st_at, iT, iF, Nat.zero_add, Nat.add_zero, not_true_eq_false, not_false_eq_true, true_and, and_true, false_and, and_false, or_true, true_or, or_false, false_or, Nat.reduceEqDiff, Nat.reduceLeDiff, Nat.reduceLT, Nat.reduceAdd, Nat.reduceSub, Nat.reduceMul, Nat.reduceDiv, Nat.reduceMod, ↓reduceIte, rm_P h, show a 0 4 ≤ i by omega]
  | succ d ih =>
    intro i p fu h1 h2 hp
    cases fu with
    | zero => omega
    | succ fu =>
      have hfr := gb_from g hp
      rw [fX12_ringOf_4_s]
      unfold fX12_ringOf_4b wk
      simp (disch := omega) only [lt_eq, bi_some, bv_some, ↓lim1, pk_m1f, fI_add1, li0, li1, li2, li3, li4, li5, li6, li7, li8, li9, li10, li12, li15, li16, li19, li20, li26, li30, li31, li32, li48, li57, li59, li60, li64, li99, li100, li128, li240, li255, li480, li999, li1000, li9000, li9999, liF, nI_add, sb_nI, pk_mul, dv_nI, cl_nI, inbT, le_nI, lt_nI, eq_nI, fI_le, fI_eq, st_ne, st_at, iT, iF, Nat.zero_add, Nat.add_zero, not_true_eq_false, not_false_eq_true, true_and, and_true, false_and, and_false, or_true, true_or, or_false, false_or, Nat.reduceEqDiff, Nat.reduceLeDiff, Nat.reduceLT, Nat.reduceAdd, Nat.reduceSub, Nat.reduceMul, Nat.reduceDiv, Nat.reduceMod, ↓reduceIte, rm_P h, show ¬ a 0 4 ≤ i by omega, rm_from h hp]
      by_cases q : a 3 p = 0
      · rw [if_pos q, if_pos q]
      · rw [if_neg q, if_neg q, fI_p q]
        exact ih (i + 1) (a 3 p - 1) fu (by omega) (by omega) (by omega)
theorem mRing {a : Ab} {σ : Sg} (h : RelM a σ) (g : Gb a) {p : Nat} (hp : p < a 0 4) : fX12_ringOf σ (nI p) = some (fI (rng a p), st σ 132 24 (nI (wk (a 3) (a 0 4) p))) := by
  have hP := gb_P g
  unfold fX12_ringOf
  rw [li0, mRing4 h g _ (a 0 4) 0 p FU (by omega) (by have := FU_ge; omega) hp]
  exact mRing35 h g hp
theorem rc_le (frm : Nat → Nat) (x : Nat) : ∀ d n q, rc frm x d n q ≤ n + d := by
  intro d
  induction d with
  | zero => intro n q; exact Nat.le_refl _
  | succ d ih =>
    intro n q
    unfold rc
    split
    · omega
    · have := ih (n + 1) (frm q - 1); omega
theorem mFirst {a : Ab} {σ : Sg} (h : RelM a σ) (g : Gb a) {p : Nat} (hp : p < a 0 4) : fX12_firstOf σ (nI p) = some (fI (fst a p), st σ 132 24 (nI (wk (a 3) (a 0 4) p))) := by
  have hP := gb_P g
  have hr := rc_le (a 3) (wk (a 3) (a 0 4) p) (a 0 4) 1 (a 3 (wk (a 3) (a 0 4) p) - 1)
  unfold fX12_firstOf
  rw [mRing h g hp, bi_some, st_at, if_pos rfl, lim1]
  unfold rng fst
  by_cases q : a 3 (wk (a 3) (a 0 4) p) = 0
  · rw [if_pos q, if_pos q, if_pos rfl, fI_s]
  · rw [if_neg q, if_neg q, if_neg]
    rw [fI_eq (by omega) (by omega)]
    omega
def sp_person (a : Ab) (x y : Int32) : Int32 := if isR (a 0 4) x then (if y = 0 then nI (a 1 (dn x)) else if y = 1 then nI (a 2 (dn x)) else if y = 2 then nI (a 4 (5 + dn x)) else if y = 3 then fI (a 3 (dn x)) else if y = 4 then nI (a 4 (12 + dn x)) else if y = 5 then nI (a 4 (19 + dn x)) else if y = 6 then nI (rid a (dn x)) else if y = 7 then fI (rng a (dn x)) else if y = 8 then fI (fst a (dn x)) else -1000000002) else -1000000001
theorem M_person {a : Ab} {σ : Sg} (h : RelM a σ) (g : Gb a) (x y : Int32) : OkM σ (fX12_person σ x y) (sp_person a x y, a) := by
  have hP := gb_P g
  unfold fX12_person sp_person
  rw [mPers h g, bi_some]
  by_cases q : isR (a 0 4) x
  · rw [if_pos q, if_pos q, if_neg (by decide)]
    obtain ⟨j, hj, rfl⟩ := ix_of (by omega) q
    obtain ⟨τ, e, s⟩ := mRid h g hj
    rw [dn_n (by omega), e, mRing h g hj, mFirst h g hj]
    simp (disch := omega) only [lt_eq, bi_some, bv_some, ↓lim1, pk_m1f, fI_add1, li0, li1, li2, li3, li4, li5, li6, li7, li8, li9, li10, li12, li15, li16, li19, li20, li26, li30, li31, li32, li48, li57, li59, li60, li64, li99, li100, li128, li240, li255, li480, li999, li1000, li9000, li9999, liF, nI_add, sb_nI, pk_mul, dv_nI, cl_nI, inbT, le_nI, lt_nI, eq_nI, fI_le, fI_eq, st_ne, st_at, iT, iF, Nat.zero_add, Nat.add_zero, not_true_eq_false, not_false_eq_true, true_and, and_true, false_and, and_false, or_true, true_or, or_false, false_or, Nat.reduceEqDiff, Nat.reduceLeDiff, Nat.reduceLT, Nat.reduceAdd, Nat.reduceSub, Nat.reduceMul, Nat.reduceDiv, Nat.reduceMod, ↓reduceIte, rm_w h, rm_kind h hj, rm_home h hj, rm_from h hj]
    by_cases q0 : y = nI 0
    · rw [if_pos q0, if_pos q0]; exact OkM.same h rfl
    rw [if_neg q0, if_neg q0]
    by_cases q1 : y = nI 1
    · rw [if_pos q1, if_pos q1]; exact OkM.same h rfl
    rw [if_neg q1, if_neg q1]
    by_cases q2 : y = nI 2
    · rw [if_pos q2, if_pos q2]; exact OkM.same h rfl
    rw [if_neg q2, if_neg q2]
    by_cases q3 : y = nI 3
    · rw [if_pos q3, if_pos q3]; exact OkM.same h rfl
    rw [if_neg q3, if_neg q3]
    by_cases q4 : y = nI 4
    · rw [if_pos q4, if_pos q4]; exact OkM.same h rfl
    rw [if_neg q4, if_neg q4]
    by_cases q5 : y = nI 5
    · rw [if_pos q5, if_pos q5]; exact OkM.same h rfl
    rw [if_neg q5, if_neg q5]
    by_cases q6 : y = nI 6
    · rw [if_pos q6, if_pos q6]; exact OkM.sm h rfl s
    rw [if_neg q6, if_neg q6]
    by_cases q7 : y = nI 7
    · rw [if_pos q7, if_pos q7]; exact OkM.sm h rfl (Sm.st rfl)
    rw [if_neg q7, if_neg q7]
    by_cases q8 : y = nI 8
    · rw [if_pos q8, if_pos q8]; exact OkM.sm h rfl (Sm.st rfl)
    rw [if_neg q8, if_neg q8]
    exact OkM.same h rfl
  · rw [if_neg q, if_neg q, if_pos (by decide)]
    exact OkM.same h rfl
