/-! the reference: bargains -/
theorem st_st (σ : Sg) (n k : Nat) (v w : Int32) : st (st σ n k v) n k w = st σ n k w := by
  funext m j
  rw [st_eq, st_eq, st_eq]
  by_cases h : m = n ∧ j = k <;> simp [h]
theorem st_self {σ : Sg} {n k : Nat} {v : Int32} (h : σ n k = v) : st σ n k v = σ := by
  funext m j
  rw [st_eq]
  by_cases q : m = n ∧ j = k
  · rw [if_pos q, q.1, q.2, h]
  · rw [if_neg q]
/-- what a turn gets off -/
def gof (kind wit step t : Nat) : Nat := if kind = 1 then wit + t else if kind = 2 then (if t % 2 = 0 then wit else 0) else if kind = 3 then 2 * wit + step / 2 else wit
/-- a bargain with r turns left, t behind, over f -/
def bgn (g : Nat → Nat) (stp : Nat) : Nat → Nat → Nat → Nat × Nat
  | 0, t, f => (f, t)
  | r + 1, t, f => if f = 0 then (f, t) else bgn g stp r (t + 1) (if 0 < r ∧ 0 < f - g t ∧ t % 3 = 2 then (if f - g t + stp ≤ 99 then f - g t + stp else 99) else f - g t)
/-- the bargain of p now over f -/
def brg (a : Ab) (p f : Nat) : Nat × Nat := bgn (gof (a 1 p) (a 4 (5 + p)) (a 0 2)) (a 0 2) (a 4 0) 0 f
theorem has_spec (σ : Sg) {s k : Nat} (hs : s < 128) (hk : k < 7) : fX12_has σ (nI s) (nI k) = some (nI (bt s k), σ) := by
  unfold fX12_has
  rw [bt_nI hs hk]
  rcases bt_01 s k with h | h <;> rw [h] <;> rfl
theorem isHills_spec {a : Ab} {σ : Sg} (h : RelM a σ) (g : Gb a) : fX12_isHills σ = some (if a 0 1 = 0 then 0 else 1, σ) := by
  unfold fX12_isHills
  have := gb_p0 g
  simp (disch := omega) only [lt_eq, bi_some, bv_some, ↓lim1, pk_m1f, fI_add1, li0, li1, li2, li3, li4, li5, li6, li7, li8, li9, li10, li12, li15, li16, li19, li20, li26, li30, li31, li32, li48, li57, li59, li60, li64, li99, li100, li128, li240, li255, li480, li999, li1000, li9000, li9999, liF, nI_add, sb_nI, pk_mul, dv_nI, cl_nI, inbT, le_nI, lt_nI, eq_nI, fI_le, fI_eq, st_ne, st_at, iT, iF, Nat.zero_add, Nat.add_zero, not_true_eq_false, not_false_eq_true, true_and, and_true, false_and, and_false, or_true, true_or, or_false, false_or, Nat.reduceEqDiff, Nat.reduceLeDiff, Nat.reduceLT, Nat.reduceAdd, Nat.reduceSub, Nat.reduceMul, Nat.reduceDiv, Nat.reduceMod, ↓reduceIte, rm_p0 h]
  by_cases q : a 0 1 = 0
  · rw [if_pos (by omega), if_pos q]
  · rw [if_neg (by omega), if_neg q]
theorem m1_64 {n : Nat} (hn : n < 100000) {x : Int32} : (0 ≤ x.toInt64 ∧ x.toInt64 ≤ (nI n - 1).toInt64) ↔ (¬ x < 0 ∧ x < nI n) := by
  rw [show (0 : Int64) = (0 : Int32).toInt64 from rfl, i64_le, i64_le, Int32.le_iff_toInt_le, Int32.le_iff_toInt_le, Int32.lt_iff_toInt_lt, Int32.lt_iff_toInt_lt]
  have h1 : (nI n).toInt = (n : Int) := nI_toInt (by omega)
  have h2 : (nI n - 1).toInt = (n : Int) - 1 := pk_sub_toInt (b := 1) (by omega) (by decide)
  have h0 : (0 : Int32).toInt = 0 := rfl
  rw [h1, h2, h0]
  omega
theorem mPers {a : Ab} {σ : Sg} (h : RelM a σ) (g : Gb a) (x : Int32) : fX12_isPerson σ x = some (if ¬ x < 0 ∧ x < nI (a 0 4) then 1 else 0, σ) := by
  unfold fX12_isPerson
  have := gb_P g
  rw [rm_P h, in_spec]
  simp only [bi_some, m1_64 (show a 0 4 < 100000 by omega)]
  by_cases q : ¬ x < 0 ∧ x < nI (a 0 4)
  · rw [if_pos q]; rfl
  · rw [if_neg q]; rfl
theorem mVill {a : Ab} {σ : Sg} (h : RelM a σ) (g : Gb a) (x : Int32) : fX12_isVillage σ x = some (if ¬ x < 0 ∧ x < nI (a 0 3) then 1 else 0, σ) := by
  unfold fX12_isVillage
  have := gb_V g
  rw [rm_V h, in_spec]
  simp only [bi_some, m1_64 (show a 0 3 < 100000 by omega)]
  by_cases q : ¬ x < 0 ∧ x < nI (a 0 3)
  · rw [if_pos q]; rfl
  · rw [if_neg q]; rfl
theorem ix_of {x : Int32} {n : Nat} (hn : n < 100000) (h : ¬ x < 0 ∧ x < nI n) : ∃ j, j < n ∧ x = nI j := by
  rcases pk_ix x (show n < 2 ^ 31 by omega) with q | q | q
  · exact absurd q h.1
  · exact absurd h.2 (Int32.not_lt.mpr q)
  · exact q
theorem ix_mk {j n : Nat} (hn : n < 100000) (h : j < n) : ¬ nI j < 0 ∧ nI j < nI n := ⟨nI_pos (by omega), nI_lt h (by omega)⟩
theorem gof_le {kind wit step t : Nat} (hw : wit ≤ 9) (hs : step ≤ 9) : gof kind wit step t ≤ 22 + t := by
  unfold gof
  repeat' split
  all_goals omega
theorem off_spec {a : Ab} {σ : Sg} (h : RelM a σ) (g : Gb a) {p t : Nat} (hp : p < a 0 4) (ht : t ≤ 100) : fX12_off σ (nI p) (nI t) = some (nI (gof (a 1 p) (a 4 (5 + p)) (a 0 2) t), σ) := by
  have hP := gb_P g
  have hk := gb_kind g hp
  have hw := wc_wit (gb_w g) hp
  have hst := gb_step g
  unfold fX12_off gof
  simp (disch := omega) only [lt_eq, bi_some, bv_some, ↓lim1, pk_m1f, fI_add1, li0, li1, li2, li3, li4, li5, li6, li7, li8, li9, li10, li12, li15, li16, li19, li20, li26, li30, li31, li32, li48, li57, li59, li60, li64, li99, li100, li128, li240, li255, li480, li999, li1000, li9000, li9999, liF, nI_add, sb_nI, pk_mul, dv_nI, cl_nI, inbT, le_nI, lt_nI, eq_nI, fI_le, fI_eq, st_ne, st_at, iT, iF, Nat.zero_add, Nat.add_zero, not_true_eq_false, not_false_eq_true, true_and, and_true, false_and, and_false, or_true, true_or, or_false, false_or, Nat.reduceEqDiff, Nat.reduceLeDiff, Nat.reduceLT, Nat.reduceAdd, Nat.reduceSub, Nat.reduceMul, Nat.reduceDiv, Nat.reduceMod, ↓reduceIte, rm_w h, rm_kind h hp, rm_step h]
  by_cases h1 : a 1 p = 1
  · simp (disch := omega) only [lt_eq, bi_some, bv_some, ↓lim1, pk_m1f, fI_add1, li0, li1, li2, li3, li4, li5, li6, li7, li8, li9, li10, li12, li15, li16, li19, li20, li26, li30, li31, li32, li48, li57, li59, li60, li64, li99, li100, li128, li240, li255, li480, li999, li1000, li9000, li9999, liF, nI_add, sb_nI, pk_mul, dv_nI, cl_nI, inbT, le_nI, lt_nI, eq_nI, fI_le, fI_eq, st_ne, st_at, iT, iF, Nat.zero_add, Nat.add_zero, not_true_eq_false, not_false_eq_true, true_and, and_true, false_and, and_false, or_true, true_or, or_false, false_or, Nat.reduceEqDiff, Nat.reduceLeDiff, Nat.reduceLT, Nat.reduceAdd, Nat.reduceSub, Nat.reduceMul, Nat.reduceDiv, Nat.reduceMod, ↓reduceIte, h1]
  · by_cases h2 : a 1 p = 2
    · simp (disch := omega) only [lt_eq, bi_some, bv_some, ↓lim1, pk_m1f, fI_add1, li0, li1, li2, li3, li4, li5, li6, li7, li8, li9, li10, li12, li15, li16, li19, li20, li26, li30, li31, li32, li48, li57, li59, li60, li64, li99, li100, li128, li240, li255, li480, li999, li1000, li9000, li9999, liF, nI_add, sb_nI, pk_mul, dv_nI, cl_nI, inbT, le_nI, lt_nI, eq_nI, fI_le, fI_eq, st_ne, st_at, iT, iF, Nat.zero_add, Nat.add_zero, not_true_eq_false, not_false_eq_true, true_and, and_true, false_and, and_false, or_true, true_or, or_false, false_or, Nat.reduceEqDiff, Nat.reduceLeDiff, Nat.reduceLT, Nat.reduceAdd, Nat.reduceSub, Nat.reduceMul, Nat.reduceDiv, Nat.reduceMod, ↓reduceIte, h2]
      by_cases h3 : t % 2 = 0
      · rw [if_pos (show t - t / 2 * 2 = 0 by omega), if_pos h3]
      · rw [if_neg (show ¬ t - t / 2 * 2 = 0 by omega), if_neg h3]
    · by_cases h3 : a 1 p = 3
      · simp (disch := omega) only [lt_eq, bi_some, bv_some, ↓lim1, pk_m1f, fI_add1, li0, li1, li2, li3, li4, li5, li6, li7, li8, li9, li10, li12, li15, li16, li19, li20, li26, li30, li31, li32, li48, li57, li59, li60, li64, li99, li100, li128, li240, li255, li480, li999, li1000, li9000, li9999, liF, nI_add, sb_nI, pk_mul, dv_nI, cl_nI, inbT, le_nI, lt_nI, eq_nI, fI_le, fI_eq, st_ne, st_at, iT, iF, Nat.zero_add, Nat.add_zero, not_true_eq_false, not_false_eq_true, true_and, and_true, false_and, and_false, or_true, true_or, or_false, false_or, Nat.reduceEqDiff, Nat.reduceLeDiff, Nat.reduceLT, Nat.reduceAdd, Nat.reduceSub, Nat.reduceMul, Nat.reduceDiv, Nat.reduceMod, ↓reduceIte, h3]
      · simp (disch := omega) only [lt_eq, bi_some, bv_some, ↓lim1, pk_m1f, fI_add1, li0, li1, li2, li3, li4, li5, li6, li7, li8, li9, li10, li12, li15, li16, li19, li20, li26, li30, li31, li32, li48, li57, li59, li60, li64, li99, li100, li128, li240, li255, li480, li999, li1000, li9000, li9999, liF, nI_add, sb_nI, pk_mul, dv_nI, cl_nI, inbT, le_nI, lt_nI, eq_nI, fI_le, fI_eq, st_ne, st_at, iT, iF, Nat.zero_add, Nat.add_zero, not_true_eq_false, not_false_eq_true, true_and, and_true, false_and, and_false, or_true, true_or, or_false, false_or, Nat.reduceEqDiff, Nat.reduceLeDiff, Nat.reduceLT, Nat.reduceAdd, Nat.reduceSub, Nat.reduceMul, Nat.reduceDiv, Nat.reduceMod, ↓reduceIte, h1, h2, h3]
theorem bgn_le (gg : Nat → Nat) {stp : Nat} : ∀ (r t f : Nat), f ≤ 99 → (bgn gg stp r t f).1 ≤ 99 ∧ (bgn gg stp r t f).2 ≤ t + r := by
  intro r
  induction r with
  | zero => intro t f hf; exact ⟨hf, Nat.le_refl _⟩
  | succ r ih =>
    intro t f hf
    unfold bgn
    by_cases h : f = 0
    · rw [if_pos h]; exact ⟨hf, by show t ≤ t + (r + 1); omega⟩
    · rw [if_neg h]
      have := ih (t + 1) (if 0 < r ∧ 0 < f - gg t ∧ t % 3 = 2 then (if f - gg t + stp ≤ 99 then f - gg t + stp else 99) else f - gg t) (by
        repeat' split
        all_goals omega)
      exact ⟨this.1, by omega⟩
theorem barg_95 (σ : Sg) (kh : Sg → Int32 → Int32 → Int32 → Option (Int32 × Sg)) (kx : Sg → Int32 → Option (Int32 × Sg)) (x y z : Int32) {t : Nat} (e : σ 132 23 = nI t) : fX12_bargain_95 kh kx σ x y z = kh (st σ 132 23 (nI (t + 1))) x y z := by
  unfold fX12_bargain_95
  rw [e, lt_eq, li1, nI_add]
theorem barg_49 {a : Ab} {σ : Sg} (h : RelM a σ) (g : Gb a) (kh : Sg → Int32 → Int32 → Int32 → Option (Int32 × Sg)) (kx : Sg → Int32 → Option (Int32 × Sg)) (x : Int32) {t r f : Nat} (e : σ 132 23 = nI t) (hr : r ≤ 20) (ht : t ≤ 20) (hf : f ≤ 99) : fX12_bargain_49 kh kx σ x (nI (r + 1)) (nI f) = kh (st σ 132 23 (nI (t + 1))) x (nI (if 0 < r ∧ 0 < f ∧ t % 3 = 2 then (if f + a 0 2 ≤ 99 then f + a 0 2 else 99) else f)) (nI r) := by
  have hst := gb_step g
  unfold fX12_bargain_49 fX12_bargain_94
  rw [e, rm_step h]
  simp only [barg_95 σ kh kx _ _ _ e]
  simp (disch := omega) only [lt_eq, bi_some, bv_some, ↓lim1, pk_m1f, fI_add1, li0, li1, li2, li3, li4, li5, li6, li7, li8, li9, li10, li12, li15, li16, li19, li20, li26, li30, li31, li32, li48, li57, li59, li60, li64, li99, li100, li128, li240, li255, li480, li999, li1000, li9000, li9999, liF, nI_add, sb_nI, pk_mul, dv_nI, cl_nI, inbT, le_nI, lt_nI, eq_nI, fI_le, fI_eq, st_ne, st_at, iT, iF, Nat.zero_add, Nat.add_zero, not_true_eq_false, not_false_eq_true, true_and, and_true, false_and, and_false, or_true, true_or, or_false, false_or, Nat.reduceEqDiff, Nat.reduceLeDiff, Nat.reduceLT, Nat.reduceAdd, Nat.reduceSub, Nat.reduceMul, Nat.reduceDiv, Nat.reduceMod, ↓reduceIte]
  by_cases q3 : r ≤ 0
  · rw [if_pos q3, if_neg (show ¬ (0 < r ∧ 0 < f ∧ t % 3 = 2) by omega)]
  · rw [if_neg q3]
    by_cases q : f ≤ 0
    · rw [if_pos q, if_neg (show ¬ (0 < r ∧ 0 < f ∧ t % 3 = 2) by omega)]
    · rw [if_neg q]
      by_cases q4 : t % 3 = 2
      · rw [if_pos (show t - t / 3 * 3 = 2 by omega), if_pos (show (0 < r ∧ 0 < f ∧ t % 3 = 2) by omega)]
        by_cases q5 : f + a 0 2 ≤ 99
        · rw [if_pos q5, if_pos q5]
        · rw [if_neg q5, if_neg q5]
      · rw [if_neg (show ¬ t - t / 3 * 3 = 2 by omega), if_neg (show ¬ (0 < r ∧ 0 < f ∧ t % 3 = 2) by omega)]
theorem barg_15x {σ : Sg} (kh : Sg → Int32 → Int32 → Int32 → Option (Int32 × Sg)) (kx : Sg → Int32 → Option (Int32 × Sg)) (x : Int32) {f r : Nat} (hf : f ≤ 99) (hr : r ≤ 20) (h0 : r = 0 ∨ f = 0) : fX12_bargain_15b kh kx σ x (nI f) (nI r) = kx σ (nI f) := by
  unfold fX12_bargain_15b
  simp (disch := omega) only [lt_eq, bi_some, bv_some, ↓lim1, pk_m1f, fI_add1, li0, li1, li2, li3, li4, li5, li6, li7, li8, li9, li10, li12, li15, li16, li19, li20, li26, li30, li31, li32, li48, li57, li59, li60, li64, li99, li100, li128, li240, li255, li480, li999, li1000, li9000, li9999, liF, nI_add, sb_nI, pk_mul, dv_nI, cl_nI, inbT, le_nI, lt_nI, eq_nI, fI_le, fI_eq, st_ne, st_at, iT, iF, Nat.zero_add, Nat.add_zero, not_true_eq_false, not_false_eq_true, true_and, and_true, false_and, and_false, or_true, true_or, or_false, false_or, Nat.reduceEqDiff, Nat.reduceLeDiff, Nat.reduceLT, Nat.reduceAdd, Nat.reduceSub, Nat.reduceMul, Nat.reduceDiv, Nat.reduceMod, ↓reduceIte]
  by_cases q : f ≤ 0
  · rw [if_pos q]
  · rw [if_neg q, if_pos (by omega)]
theorem barg_15s {a : Ab} {σ : Sg} (h : RelM a σ) (g : Gb a) (kh : Sg → Int32 → Int32 → Int32 → Option (Int32 × Sg)) (kx : Sg → Int32 → Option (Int32 × Sg)) {p t r f : Nat} (hp : p < a 0 4) (e : σ 132 23 = nI t) (hr : r ≤ 20) (ht : t ≤ 20) (hf : f ≤ 99) (h0 : ¬ f = 0) {G : Nat} (hG : gof (a 1 p) (a 4 (5 + p)) (a 0 2) t = G) : fX12_bargain_15b kh kx σ (nI p) (nI f) (nI (r + 1)) = kh (st σ 132 23 (nI (t + 1))) (nI p) (nI (if 0 < r ∧ 0 < f - G ∧ t % 3 = 2 then (if f - G + a 0 2 ≤ 99 then f - G + a 0 2 else 99) else f - G)) (nI r) := by
  have hst := gb_step g
  have hw := wc_wit (gb_w g) hp
  have hgo := gof_le (kind := a 1 p) (t := t) hw.2 hst
  unfold fX12_bargain_15b
  rw [e, off_spec h g hp (by omega), hG]
  rw [hG] at hgo
  simp (disch := omega) only [lt_eq, bi_some, bv_some, ↓lim1, pk_m1f, fI_add1, li0, li1, li2, li3, li4, li5, li6, li7, li8, li9, li10, li12, li15, li16, li19, li20, li26, li30, li31, li32, li48, li57, li59, li60, li64, li99, li100, li128, li240, li255, li480, li999, li1000, li9000, li9999, liF, nI_add, sb_nI, pk_mul, dv_nI, cl_nI, inbT, le_nI, lt_nI, eq_nI, fI_le, fI_eq, st_ne, st_at, iT, iF, Nat.zero_add, Nat.add_zero, not_true_eq_false, not_false_eq_true, true_and, and_true, false_and, and_false, or_true, true_or, or_false, false_or, Nat.reduceEqDiff, Nat.reduceLeDiff, Nat.reduceLT, Nat.reduceAdd, Nat.reduceSub, Nat.reduceMul, Nat.reduceDiv, Nat.reduceMod, ↓reduceIte, show ¬ f ≤ 0 by omega, show ¬ r + 1 ≤ 0 by omega]
  by_cases q2 : f ≤ G
  · rw [if_pos q2, barg_49 h g _ _ _ e hr ht (by omega), show f - G = 0 by omega]
  · rw [if_neg q2, barg_49 h g _ _ _ e hr ht (by omega)]
theorem barg_loop {a : Ab} (g : Gb a) {p : Nat} (hp : p < a 0 4) (kx : Sg → Int32 → Option (Int32 × Sg)) : ∀ (r n t f : Nat) (σ : Sg), r < n → t + r ≤ 20 → f ≤ 99 → RelM a σ → σ 132 23 = nI t →
    fX12_bargain_15 n kx σ (nI p) (nI f) (nI r) = kx (st σ 132 23 (nI (bgn (gof (a 1 p) (a 4 (5 + p)) (a 0 2)) (a 0 2) r t f).2)) (nI (bgn (gof (a 1 p) (a 4 (5 + p)) (a 0 2)) (a 0 2) r t f).1) := by
  intro r
  induction r with
  | zero =>
    intro n t f σ hn ht hf h e
    cases n with
    | zero => omega
    | succ n => rw [fX12_bargain_15_s, bgn, barg_15x _ _ _ hf (by omega) (Or.inl rfl), st_self e]
  | succ r ih =>
    intro n t f σ hn ht hf h e
    cases n with
    | zero => omega
    | succ n =>
      rw [fX12_bargain_15_s, bgn]
      by_cases q : f = 0
      · rw [if_pos q, barg_15x _ _ _ hf (by omega) (Or.inr q), st_self e]
      · have h2 : RelM a (st σ 132 23 (nI (t + 1))) := (Sm.st rfl).rel h
        have e2 : st σ 132 23 (nI (t + 1)) 132 23 = nI (t + 1) := by rw [st_at, if_pos rfl]
        rw [if_neg q, barg_15s h g _ _ hp e (by omega) (by omega) hf q rfl, ih n (t + 1) _ _ (by omega) (by omega) (by
            repeat' split
            all_goals omega) h2 e2, st_st]
theorem barg_spec {a : Ab} {σ : Sg} (h : RelM a σ) (g : Gb a) {p f : Nat} (hp : p < a 0 4) (hf : f ≤ 99) : fX12_bargain σ (nI p) (nI f) = some (nI (brg a p f).1, st σ 132 23 (nI (brg a p f).2)) := by
  unfold fX12_bargain
  have h0 := wc_pat (gb_w g)
  simp (disch := omega) only [lt_eq, bi_some, bv_some, ↓lim1, pk_m1f, fI_add1, li0, li1, li2, li3, li4, li5, li6, li7, li8, li9, li10, li12, li15, li16, li19, li20, li26, li30, li31, li32, li48, li57, li59, li60, li64, li99, li100, li128, li240, li255, li480, li999, li1000, li9000, li9999, liF, nI_add, sb_nI, pk_mul, dv_nI, cl_nI, inbT, le_nI, lt_nI, eq_nI, fI_le, fI_eq, st_ne, st_at, iT, iF, Nat.zero_add, Nat.add_zero, not_true_eq_false, not_false_eq_true, true_and, and_true, false_and, and_false, or_true, true_or, or_false, false_or, Nat.reduceEqDiff, Nat.reduceLeDiff, Nat.reduceLT, Nat.reduceAdd, Nat.reduceSub, Nat.reduceMul, Nat.reduceDiv, Nat.reduceMod, ↓reduceIte, rm_w h]
  rw [barg_loop g hp _ (a 4 0) FU 0 f (st σ 132 23 (nI 0)) (by have := FU_ge; omega) (by omega) hf ((Sm.st rfl).rel h) (by rw [st_at]; simp), st_st]
  rfl
theorem brg_le {a : Ab} (g : Gb a) {p f : Nat} (hf : f ≤ 99) : (brg a p f).1 ≤ 99 ∧ (brg a p f).2 ≤ 20 := by
  have h0 := wc_pat (gb_w g)
  have := bgn_le (gof (a 1 p) (a 4 (5 + p)) (a 0 2)) (stp := a 0 2) (a 4 0) 0 f hf
  exact ⟨this.1, Nat.le_trans this.2 (by omega)⟩
