/-! reading a text: what it tells -/
def skp (T : Nat → Nat) (N : Nat) : Nat → Nat → Nat
  | 0, i => i
  | d + 1, i => if i < N ∧ T i = 32 then skp T N d (i + 1) else i
/-- the place behind blanks -/
def sk (T : Nat → Nat) (N i : Nat) : Nat := skp T N (N - i) i
theorem skp_ge (T : Nat → Nat) (N : Nat) : ∀ d i, i ≤ skp T N d i ∧ skp T N d i ≤ i + d := by
  intro d
  induction d with
  | zero => intro i; exact ⟨Nat.le_refl _, Nat.le_refl _⟩
  | succ d ih =>
    intro i
    unfold skp
    split
    · have := ih (i + 1); omega
    · omega
theorem sk_ge (T : Nat → Nat) (N i : Nat) : i ≤ sk T N i := (skp_ge T N _ i).1
theorem sk_le {T : Nat → Nat} {N i : Nat} (h : i ≤ N) : sk T N i ≤ N := by
  have := (skp_ge T N (N - i) i).2
  unfold sk
  omega
theorem skp_stop {T : Nat → Nat} {N : Nat} : ∀ d i, N ≤ i + d → ¬ (skp T N d i < N ∧ T (skp T N d i) = 32) := by
  intro d
  induction d with
  | zero => intro i h q; have : skp T N 0 i = i := rfl; rw [this] at q; omega
  | succ d ih =>
    intro i h
    unfold skp
    split
    · exact ih (i + 1) (by omega)
    · assumption
theorem sk_stop {T : Nat → Nat} {N i : Nat} : ¬ (sk T N i < N ∧ T (sk T N i) = 32) := skp_stop (N - i) i (by omega)
theorem sk_sk (T : Nat → Nat) (N i : Nat) : sk T N (sk T N i) = sk T N i := by
  have h : ¬ (sk T N i < N ∧ T (sk T N i) = 32) := sk_stop
  rw [sk]
  generalize sk T N i = j at h ⊢
  cases N - j with
  | zero => rfl
  | succ d => unfold skp; rw [if_neg h]
/-- figures from i on: behind them, and their number -/
def dgs (T : Nat → Nat) (N : Nat) : Nat → Nat → Nat → Nat × Nat
  | 0, i, v => (i, v)
  | d + 1, i, v => if i < N ∧ 48 ≤ T i ∧ T i ≤ 57 then dgs T N d (i + 1) (if v ≤ 1000 then 10 * v + T i - 48 else v) else (i, v)
theorem dgs_le (T : Nat → Nat) (N : Nat) : ∀ d i v, v ≤ 10009 → i ≤ (dgs T N d i v).1 ∧ (dgs T N d i v).1 ≤ i + d ∧ (dgs T N d i v).2 ≤ 10009 := by
  intro d
  induction d with
  | zero => intro i v hv; exact ⟨Nat.le_refl _, Nat.le_refl _, hv⟩
  | succ d ih =>
    intro i v hv
    unfold dgs
    by_cases q : i < N ∧ 48 ≤ T i ∧ T i ≤ 57
    · rw [if_pos q]
      have := ih (i + 1) (if v ≤ 1000 then 10 * v + T i - 48 else v) (by split <;> omega)
      omega
    · rw [if_neg q]
      exact ⟨Nat.le_refl _, by show i ≤ i + (d + 1); omega, hv⟩
/-- a number of lo .. hs - 1 from i on: fault, its place, behind it, the number -/
def num (T : Nat → Nat) (N lo hs i : Nat) : Nat × Nat × Nat × Nat :=
  if sk T N i < N ∧ 48 ≤ T (sk T N i) ∧ T (sk T N i) ≤ 57 then
    (if 3 < (dgs T N (N - sk T N i) (sk T N i) 0).1 - sk T N i ∨ (dgs T N (N - sk T N i) (sk T N i) 0).2 < lo ∨ hs ≤ (dgs T N (N - sk T N i) (sk T N i) 0).2 then 2 else 0, sk T N i, dgs T N (N - sk T N i) (sk T N i) 0)
  else (1, sk T N i, sk T N i, 0)
theorem num_at {T : Nat → Nat} {N lo hs i : Nat} (h : i ≤ N) : i ≤ (num T N lo hs i).2.2.1 ∧ (num T N lo hs i).2.2.1 ≤ N ∧ (num T N lo hs i).2.1 ≤ N := by
  have h1 := sk_ge T N i
  have h2 := sk_le (T := T) h
  have h3 := dgs_le T N (N - sk T N i) (sk T N i) 0 (by omega)
  unfold num
  split
  · exact ⟨by show i ≤ (dgs T N (N - sk T N i) (sk T N i) 0).1; omega, by show (dgs T N (N - sk T N i) (sk T N i) 0).1 ≤ N; omega, h2⟩
  · exact ⟨h1, h2, h2⟩
theorem num_ok {T : Nat → Nat} {N lo hs i : Nat} (h : (num T N lo hs i).1 = 0) : lo ≤ (num T N lo hs i).2.2.2 ∧ (num T N lo hs i).2.2.2 < hs := by
  unfold num at h ⊢
  by_cases q : sk T N i < N ∧ 48 ≤ T (sk T N i) ∧ T (sk T N i) ≤ 57
  · rw [if_pos q] at h ⊢
    by_cases z : 3 < (dgs T N (N - sk T N i) (sk T N i) 0).1 - sk T N i ∨ (dgs T N (N - sk T N i) (sk T N i) 0).2 < lo ∨ hs ≤ (dgs T N (N - sk T N i) (sk T N i) 0).2
    · rw [if_pos z] at h; cases h
    · show lo ≤ (dgs T N (N - sk T N i) (sk T N i) 0).2 ∧ (dgs T N (N - sk T N i) (sk T N i) 0).2 < hs
      omega
  · rw [if_neg q] at h; cases h
theorem num_c {T : Nat → Nat} {N lo hs i : Nat} : (num T N lo hs i).1 ≤ 2 := by
  unfold num
  split
  · show (if _ then 2 else 0) ≤ 2
    split <;> omega
  · exact (by omega : (1 : Nat) ≤ 2)
/-! the reference: letters -/
/-- the reference's text and place -/
def TxM (T : Nat → Nat) (N i : Nat) (σ : Sg) : Prop := σ 132 10 = nI N ∧ (∀ k, k < N → σ 137 k = nI (T k)) ∧ σ 132 12 = nI i ∧ σ 132 11 = fI 0
theorem TxM.to {T : Nat → Nat} {N i j : Nat} {σ : Sg} (h : TxM T N i σ) : TxM T N j (st σ 132 12 (nI j)) := by
  refine ⟨?_, fun k hk => ?_, ?_, ?_⟩
  · rw [st_at, if_neg (by omega)]; exact h.1
  · rw [st_ne (by omega)]; exact h.2.1 k hk
  · rw [st_at, if_pos rfl]
  · rw [st_at, if_neg (by omega)]; exact h.2.2.2
theorem TxM.of {T : Nat → Nat} {N i : Nat} {σ : Sg} (h : TxM T N i σ) {n k : Nat} {v : Int32} (hn : n ≠ 137) (hk : n = 132 → k ≠ 10 ∧ k ≠ 12 ∧ k ≠ 11) : TxM T N i (st σ n k v) := by
  refine ⟨?_, fun j hj => ?_, ?_, ?_⟩
  · rw [st_eq, if_neg (fun y => (hk y.1.symm).1 y.2.symm)]; exact h.1
  · rw [st_eq, if_neg (fun y => hn y.1.symm)]; exact h.2.1 j hj
  · rw [st_eq, if_neg (fun y => (hk y.1.symm).2.1 y.2.symm)]; exact h.2.2.1
  · rw [st_eq, if_neg (fun y => (hk y.1.symm).2.2 y.2.symm)]; exact h.2.2.2
theorem mHere0 {T : Nat → Nat} {N : Nat} (hN : N ≤ 240) (hT : ∀ k, k < N → T k ≤ 255) (kx : Sg → Option (Int32 × Sg)) : ∀ (d i fu : Nat) (σ : Sg), i + d = N → d < fu → TxM T N i σ → fX12_here_0 fu kx σ = kx (st σ 132 12 (nI (skp T N d i))) := by
  intro d
  induction d with
  | zero =>
    intro i fu σ h1 h2 h
    cases fu with
    | zero => omega
    | succ fu =>
      rw [fX12_here_0_s]
      unfold fX12_here_0b skp
      rw [h.1, h.2.2.1, st_self h.2.2.1]
      simp (disch := omega) only [lt_eq, bi_some, bv_some, ↓lim1, pk_m1f, fI_add1, li0, li1, li2, li3, li4, li5, li6, li7, li8, li9, li10, li12, li15, li16, li19, li20, li26, li30, li31, li32, li48, li57, li59, li60, li64, li99, li100, li128, li240, li255, li480, li999, li1000, li9000, li9999, liF, nI_add, sb_nI, pk_mul, dv_nI, cl_nI, inbT, le_nI, lt_nI, eq_nI, fI_le, fI_eq, st_ne, st_at, iT, iF, Nat.zero_add, Nat.add_zero, not_true_eq_false, not_false_eq_true, true_and, and_true, false_and, and_false, or_true, true_or, or_false, false_or, Nat.reduceEqDiff, Nat.reduceLeDiff, Nat.reduceLT, Nat.reduceAdd, Nat.reduceSub, Nat.reduceMul, Nat.reduceDiv, Nat.reduceMod, ↓reduceIte, show N ≤ i by omega]
  | succ d ih =>
    intro i fu σ h1 h2 h
    cases fu with
    | zero => omega
    | succ fu =>
      have hi : i < N := by omega
      have ht := hT i hi
      rw [fX12_here_0_s]
      unfold fX12_here_0b skp
      rw [h.1, h.2.2.1]
      simp (disch := omega) only [lt_eq, bi_some, bv_some, ↓lim1, pk_m1f, fI_add1, li0, li1, li2, li3, li4, li5, li6, li7, li8, li9, li10, li12, li15, li16, li19, li20, li26, li30, li31, li32, li48, li57, li59, li60, li64, li99, li100, li128, li240, li255, li480, li999, li1000, li9000, li9999, liF, nI_add, sb_nI, pk_mul, dv_nI, cl_nI, inbT, le_nI, lt_nI, eq_nI, fI_le, fI_eq, st_ne, st_at, iT, iF, Nat.zero_add, Nat.add_zero, not_true_eq_false, not_false_eq_true, true_and, and_true, false_and, and_false, or_true, true_or, or_false, false_or, Nat.reduceEqDiff, Nat.reduceLeDiff, Nat.reduceLT, Nat.reduceAdd, Nat.reduceSub, Nat.reduceMul, Nat.reduceDiv, Nat.reduceMod, ↓reduceIte, show ¬ N ≤ i by omega, h.2.1 i hi, hi]
      by_cases q : T i = 32
      · rw [if_pos q, if_pos q, ih (i + 1) fu _ (by omega) (by omega) h.to, st_st]
      · rw [if_neg q, if_neg q, st_self h.2.2.1]
theorem mHere {T : Nat → Nat} {N i : Nat} (hN : N ≤ 240) (hT : ∀ k, k < N → T k ≤ 255) {σ : Sg} (h : TxM T N i σ) (hi : i ≤ N) : fX12_here σ = some (if sk T N i < N then nI (T (sk T N i)) else fI 0, st σ 132 12 (nI (sk T N i))) := by
  unfold fX12_here
  rw [mHere0 hN hT _ (N - i) i FU σ (by omega) (by have := FU_ge; omega) h]
  have h2 : TxM T N (sk T N i) (st σ 132 12 (nI (skp T N (N - i) i))) := h.to
  have hl := sk_le (T := T) hi
  unfold fX12_here_38
  rw [h2.1, h2.2.2.1]
  by_cases q : sk T N i < N
  · simp (disch := omega) only [lt_eq, bi_some, bv_some, ↓lim1, pk_m1f, fI_add1, li0, li1, li2, li3, li4, li5, li6, li7, li8, li9, li10, li12, li15, li16, li19, li20, li26, li30, li31, li32, li48, li57, li59, li60, li64, li99, li100, li128, li240, li255, li480, li999, li1000, li9000, li9999, liF, nI_add, sb_nI, pk_mul, dv_nI, cl_nI, inbT, le_nI, lt_nI, eq_nI, fI_le, fI_eq, st_ne, st_at, iT, iF, Nat.zero_add, Nat.add_zero, not_true_eq_false, not_false_eq_true, true_and, and_true, false_and, and_false, or_true, true_or, or_false, false_or, Nat.reduceEqDiff, Nat.reduceLeDiff, Nat.reduceLT, Nat.reduceAdd, Nat.reduceSub, Nat.reduceMul, Nat.reduceDiv, Nat.reduceMod, ↓reduceIte, show ¬ N ≤ sk T N i by omega, h2.2.1 _ q, q]
    rfl
  · simp (disch := omega) only [lt_eq, bi_some, bv_some, ↓lim1, pk_m1f, fI_add1, li0, li1, li2, li3, li4, li5, li6, li7, li8, li9, li10, li12, li15, li16, li19, li20, li26, li30, li31, li32, li48, li57, li59, li60, li64, li99, li100, li128, li240, li255, li480, li999, li1000, li9000, li9999, liF, nI_add, sb_nI, pk_mul, dv_nI, cl_nI, inbT, le_nI, lt_nI, eq_nI, fI_le, fI_eq, st_ne, st_at, iT, iF, Nat.zero_add, Nat.add_zero, not_true_eq_false, not_false_eq_true, true_and, and_true, false_and, and_false, or_true, true_or, or_false, false_or, Nat.reduceEqDiff, Nat.reduceLeDiff, Nat.reduceLT, Nat.reduceAdd, Nat.reduceSub, Nat.reduceMul, Nat.reduceDiv, Nat.reduceMod, ↓reduceIte, show N ≤ sk T N i by omega, q]
    rfl
theorem in_fig (σ : Sg) {t : Nat} (ht : t ≤ 255) : fX12_in σ (nI t).toInt64 48 57 = some (nI (if 48 ≤ t ∧ t ≤ 57 then 1 else 0), σ) := by
  rw [in_spec, nI_l (by omega), show (48 : Int64) = lN 48 by decide, show (57 : Int64) = lN 57 by decide]
  simp only [lN_le (show 48 < 2 ^ 31 by omega) (show t < 2 ^ 31 by omega), lN_le (show t < 2 ^ 31 by omega) (show 57 < 2 ^ 31 by omega)]
  by_cases q : 48 ≤ t ∧ t ≤ 57
  · rw [if_pos q, if_pos q]; rfl
  · rw [if_neg q, if_neg q]; rfl
theorem in_nn (σ : Sg) {x y z : Nat} (hx : x < 1000000) (hy : y < 1000000) (hz : z < 1000000) : fX12_in σ (nI x).toInt64 (nI y).toInt64 (nI z - nI 1).toInt64 = some (nI (if y ≤ x ∧ x < z then 1 else 0), σ) := by
  rw [in_spec]
  simp only [i64_le, Int32.le_iff_toInt_le]
  have h1 : (nI x).toInt = (x : Int) := nI_toInt (by omega)
  have h2 : (nI y).toInt = (y : Int) := nI_toInt (by omega)
  have h3 : (nI z - nI 1).toInt = (z : Int) - 1 := pk_sub_toInt (by omega) (by omega)
  rw [h1, h2, h3]
  by_cases q : y ≤ x ∧ x < z
  · rw [if_pos q, if_pos (by omega)]; rfl
  · rw [if_neg q, if_neg (by omega)]; rfl
theorem st_4 (σ : Sg) (x y z w : Int32) : st (st (st (st σ 132 13 x) 132 12 y) 132 13 z) 132 12 w = st (st σ 132 13 z) 132 12 w := by
  funext m j
  simp only [st_eq]
  by_cases q : m = 132 ∧ j = 12
  · simp [q]
  · by_cases z : m = 132 ∧ j = 13
    · simp [z]
    · simp [q, z]
theorem mDgs {T : Nat → Nat} {N : Nat} (hN : N ≤ 240) (hT : ∀ k, k < N → T k ≤ 255) (x1 x2 x3 : Int32) (kx : Sg → Int32 → Int32 → Int32 → Option (Int32 × Sg)) : ∀ (d i v fu : Nat) (σ : Sg), i + d = N → d < fu → v ≤ 10009 → TxM T N i σ → σ 132 13 = nI v → fX12_takeNumber_37 fu kx σ x1 x2 x3 = kx (st (st σ 132 13 (nI (dgs T N d i v).2)) 132 12 (nI (dgs T N d i v).1)) x1 x2 x3 := by
  intro d
  induction d with
  | zero =>
    intro i v fu σ h1 h2 hv h hn
    cases fu with
    | zero => omega
    | succ fu =>
      rw [fX12_takeNumber_37_s]
      unfold fX12_takeNumber_37b dgs
      rw [h.1, h.2.2.1, st_self hn, st_self h.2.2.1]
      simp (disch := omega) only [lt_eq, bi_some, bv_some, ↓lim1, pk_m1f, fI_add1, li0, li1, li2, li3, li4, li5, li6, li7, li8, li9, li10, li12, li15, li16, li19, li20, li26, li30, li31, li32, li48, li57, li59, li60, li64, li99, li100, li128, li240, li255, li480, li999, li1000, li9000, li9999, liF, nI_add, sb_nI, pk_mul, dv_nI, cl_nI, inbT, le_nI, lt_nI, eq_nI, fI_le, fI_eq, st_ne, st_at, iT, iF, Nat.zero_add, Nat.add_zero, not_true_eq_false, not_false_eq_true, true_and, and_true, false_and, and_false, or_true, true_or, or_false, false_or, Nat.reduceEqDiff, Nat.reduceLeDiff, Nat.reduceLT, Nat.reduceAdd, Nat.reduceSub, Nat.reduceMul, Nat.reduceDiv, Nat.reduceMod, ↓reduceIte, show N ≤ i by omega]
  | succ d ih =>
    intro i v fu σ h1 h2 hv h hn
    cases fu with
    | zero => omega
    | succ fu =>
      have hi : i < N := by omega
      have ht := hT i hi
      rw [fX12_takeNumber_37_s]
      unfold fX12_takeNumber_37b
      rw [h.1, h.2.2.1]
      simp (disch := omega) only [lt_eq, bi_some, bv_some, ↓lim1, pk_m1f, fI_add1, li0, li1, li2, li3, li4, li5, li6, li7, li8, li9, li10, li12, li15, li16, li19, li20, li26, li30, li31, li32, li48, li57, li59, li60, li64, li99, li100, li128, li240, li255, li480, li999, li1000, li9000, li9999, liF, nI_add, sb_nI, pk_mul, dv_nI, cl_nI, inbT, le_nI, lt_nI, eq_nI, fI_le, fI_eq, st_ne, st_at, iT, iF, Nat.zero_add, Nat.add_zero, not_true_eq_false, not_false_eq_true, true_and, and_true, false_and, and_false, or_true, true_or, or_false, false_or, Nat.reduceEqDiff, Nat.reduceLeDiff, Nat.reduceLT, Nat.reduceAdd, Nat.reduceSub, Nat.reduceMul, Nat.reduceDiv, Nat.reduceMod, ↓reduceIte, show ¬ N ≤ i by omega, h.2.1 i hi, in_fig σ ht, hn, h.2.2.1]
      unfold dgs
      by_cases q : 48 ≤ T i ∧ T i ≤ 57
      · rw [if_pos (show i < N ∧ 48 ≤ T i ∧ T i ≤ 57 from ⟨hi, q⟩)]
        have key : ∀ y, y ≤ 10009 → fX12_takeNumber_108 (fX12_takeNumber_37 fu kx) kx σ x1 x2 x3 (nI y) = kx (st (st σ 132 13 (nI (dgs T N d (i + 1) y).2)) 132 12 (nI (dgs T N d (i + 1) y).1)) x1 x2 x3 := by
          intro y hy
          have h3 : TxM T N i (st σ 132 13 (nI y)) := h.of (by omega) (by omega)
          unfold fX12_takeNumber_108
          simp (disch := omega) only [lt_eq, bi_some, bv_some, ↓lim1, pk_m1f, fI_add1, li0, li1, li2, li3, li4, li5, li6, li7, li8, li9, li10, li12, li15, li16, li19, li20, li26, li30, li31, li32, li48, li57, li59, li60, li64, li99, li100, li128, li240, li255, li480, li999, li1000, li9000, li9999, liF, nI_add, sb_nI, pk_mul, dv_nI, cl_nI, inbT, le_nI, lt_nI, eq_nI, fI_le, fI_eq, st_ne, st_at, iT, iF, Nat.zero_add, Nat.add_zero, not_true_eq_false, not_false_eq_true, true_and, and_true, false_and, and_false, or_true, true_or, or_false, false_or, Nat.reduceEqDiff, Nat.reduceLeDiff, Nat.reduceLT, Nat.reduceAdd, Nat.reduceSub, Nat.reduceMul, Nat.reduceDiv, Nat.reduceMod, ↓reduceIte, h.2.2.1]
          rw [ih (i + 1) y fu _ (by omega) (by omega) hy h3.to (by rw [st_eq, if_neg (by omega), st_at, if_pos rfl]), st_4]
        by_cases z : v ≤ 1000
        · simp (disch := omega) only [lt_eq, bi_some, bv_some, ↓lim1, pk_m1f, fI_add1, li0, li1, li2, li3, li4, li5, li6, li7, li8, li9, li10, li12, li15, li16, li19, li20, li26, li30, li31, li32, li48, li57, li59, li60, li64, li99, li100, li128, li240, li255, li480, li999, li1000, li9000, li9999, liF, nI_add, sb_nI, pk_mul, dv_nI, cl_nI, inbT, le_nI, lt_nI, eq_nI, fI_le, fI_eq, st_ne, st_at, iT, iF, Nat.zero_add, Nat.add_zero, not_true_eq_false, not_false_eq_true, true_and, and_true, false_and, and_false, or_true, true_or, or_false, false_or, Nat.reduceEqDiff, Nat.reduceLeDiff, Nat.reduceLT, Nat.reduceAdd, Nat.reduceSub, Nat.reduceMul, Nat.reduceDiv, Nat.reduceMod, ↓reduceIte, q, z]
          exact key _ (by omega)
        · simp (disch := omega) only [lt_eq, bi_some, bv_some, ↓lim1, pk_m1f, fI_add1, li0, li1, li2, li3, li4, li5, li6, li7, li8, li9, li10, li12, li15, li16, li19, li20, li26, li30, li31, li32, li48, li57, li59, li60, li64, li99, li100, li128, li240, li255, li480, li999, li1000, li9000, li9999, liF, nI_add, sb_nI, pk_mul, dv_nI, cl_nI, inbT, le_nI, lt_nI, eq_nI, fI_le, fI_eq, st_ne, st_at, iT, iF, Nat.zero_add, Nat.add_zero, not_true_eq_false, not_false_eq_true, true_and, and_true, false_and, and_false, or_true, true_or, or_false, false_or, Nat.reduceEqDiff, Nat.reduceLeDiff, Nat.reduceLT, Nat.reduceAdd, Nat.reduceSub, Nat.reduceMul, Nat.reduceDiv, Nat.reduceMod, ↓reduceIte, q, z]
          exact key _ hv
      · rw [if_neg (show ¬ (i < N ∧ 48 ≤ T i ∧ T i ≤ 57) from fun y => q y.2)]
        simp (disch := omega) only [lt_eq, bi_some, bv_some, ↓lim1, pk_m1f, fI_add1, li0, li1, li2, li3, li4, li5, li6, li7, li8, li9, li10, li12, li15, li16, li19, li20, li26, li30, li31, li32, li48, li57, li59, li60, li64, li99, li100, li128, li240, li255, li480, li999, li1000, li9000, li9999, liF, nI_add, sb_nI, pk_mul, dv_nI, cl_nI, inbT, le_nI, lt_nI, eq_nI, fI_le, fI_eq, st_ne, st_at, iT, iF, Nat.zero_add, Nat.add_zero, not_true_eq_false, not_false_eq_true, true_and, and_true, false_and, and_false, or_true, true_or, or_false, false_or, Nat.reduceEqDiff, Nat.reduceLeDiff, Nat.reduceLT, Nat.reduceAdd, Nat.reduceSub, Nat.reduceMul, Nat.reduceDiv, Nat.reduceMod, ↓reduceIte, q, st_self hn, st_self h.2.2.1]
/-- what a number does to the reference: its place, the number, perhaps a fault -/
theorem mNum {T : Nat → Nat} {N i lo hs : Nat} (hN : N ≤ 240) (hT : ∀ k, k < N → T k ≤ 255) {σ : Sg} (h : TxM T N i σ) (hi : i ≤ N) (hlo : lo ≤ 100) (hhs : hs ≤ 100) {x2 : Int32} (hx2 : x2 = nI hs - nI 1) : ∃ τ, fX12_takeNumber σ (nI lo) x2 = some (nI (num T N lo hs i).1, τ) ∧ ((num T N lo hs i).1 = 0 → TxM T N (num T N lo hs i).2.2.1 τ) ∧ ((num T N lo hs i).1 = 0 → τ 132 13 = nI (num T N lo hs i).2.2.2) ∧ (0 < (num T N lo hs i).1 → τ 132 11 = nI (num T N lo hs i).2.1) ∧ ∀ n k, (n = 132 → k ≠ 11 ∧ k ≠ 12 ∧ k ≠ 13) → τ n k = σ n k := by
  have hl := sk_le (T := T) hi
  have h2 : TxM T N (sk T N i) (st σ 132 12 (nI (sk T N i))) := h.to
  unfold fX12_takeNumber
  rw [mHere hN hT h hi, bi_some]
  unfold num
  by_cases q : sk T N i < N ∧ 48 ≤ T (sk T N i) ∧ T (sk T N i) ≤ 57
  · have ht := hT _ q.1
    rw [if_pos q.1, in_fig _ ht, bi_some, if_pos q.2, if_pos q, if_neg (by decide), h2.2.2.1, lt_eq, lt_eq]
    generalize hS : st σ 132 12 (nI (sk T N i)) = S at h2 ⊢
    have h3 : TxM T N (sk T N i) (st S 132 13 (nI 0)) := h2.of (by omega) (by omega)
    rw [li0, mDgs hN hT _ _ _ _ (N - sk T N i) (sk T N i) 0 FU _ (by omega) (by have := FU_ge; omega) (by omega) h3 (by rw [st_at, if_pos rfl])]
    have hd := dgs_le T N (N - sk T N i) (sk T N i) 0 (by omega)
    generalize dgs T N (N - sk T N i) (sk T N i) 0 = D at hd ⊢
    obtain ⟨q1, v1⟩ := D
    have hd : sk T N i ≤ q1 ∧ q1 ≤ sk T N i + (N - sk T N i) ∧ v1 ≤ 10009 := hd
    show ∃ τ, fX12_takeNumber_124 (st (st (st S 132 13 (nI 0)) 132 13 (nI v1)) 132 12 (nI q1)) (nI lo) x2 (nI (sk T N i)) = _ ∧ _
    rw [st_st]
    have h4 : TxM T N q1 (st (st S 132 13 (nI v1)) 132 12 (nI q1)) := (h2.of (n := 132) (k := 13) (by omega) (by omega)).to
    have e13 : st (st S 132 13 (nI v1)) 132 12 (nI q1) 132 13 = nI v1 := by rw [st_eq, if_neg (by omega), st_at, if_pos rfl]
    have fr : ∀ n k, (n = 132 → k ≠ 11 ∧ k ≠ 12 ∧ k ≠ 13) → st (st S 132 13 (nI v1)) 132 12 (nI q1) n k = σ n k := fun n k hh => by
      rw [st_eq, if_neg (by omega), st_eq, if_neg (by omega), ← hS, st_eq, if_neg (by omega)]
    generalize st (st S 132 13 (nI v1)) 132 12 (nI q1) = U at h4 e13 fr ⊢
    unfold fX12_takeNumber_124
    rw [h4.2.2.1, e13, hx2, in_nn U (show v1 < 1000000 by omega) (show lo < 1000000 by omega) (show hs < 1000000 by omega), bi_some, li3]
    rw [sb_nI hd.1]
    have bad : ∃ τ, fX12_takeNumber_149 U (nI (sk T N i)) = some (nI 2, τ) ∧ τ 132 11 = nI (sk T N i) ∧ ∀ n k, (n = 132 → k ≠ 11 ∧ k ≠ 12 ∧ k ≠ 13) → τ n k = σ n k := by
      refine ⟨st U 132 11 (nI (sk T N i)), ?_, by rw [st_at, if_pos rfl], fun n k hh => ?_⟩
      · unfold fX12_takeNumber_149 fX12_fails
        rw [lt_eq, bi_some, li2]
      · rw [st_eq, if_neg (by omega)]
        exact fr n k hh
    by_cases z : 3 < q1 - sk T N i ∨ v1 < lo ∨ hs ≤ v1
    · rw [if_pos z]
      obtain ⟨τ, e, t2, t3⟩ := bad
      refine ⟨τ, ?_, (fun h => absurd h (by show ¬ 2 = 0; omega)), (fun h => absurd h (by show ¬ 2 = 0; omega)), fun _ => t2, t3⟩
      by_cases w : 3 < q1 - sk T N i
      · rw [if_pos (show nI 3 < nI (q1 - sk T N i) by rw [lt_nI (by omega) (by omega)]; exact w)]
        exact e
      · rw [if_neg (show ¬ nI 3 < nI (q1 - sk T N i) by rw [lt_nI (by omega) (by omega)]; exact w), if_neg (show ¬ (lo ≤ v1 ∧ v1 < hs) by omega), if_pos (by decide)]
        exact e
    · rw [if_neg z, if_neg (show ¬ nI 3 < nI (q1 - sk T N i) by rw [lt_nI (by omega) (by omega)]; omega), if_pos (show lo ≤ v1 ∧ v1 < hs by omega), if_neg (by decide)]
      exact ⟨U, rfl, fun _ => h4, fun _ => e13, fun h => absurd h (by show ¬ 0 < 0; omega), fr⟩
  · rw [if_neg q]
    have er : fX12_in (st σ 132 12 (nI (sk T N i))) (if sk T N i < N then nI (T (sk T N i)) else fI 0).toInt64 48 57 = some (nI 0, st σ 132 12 (nI (sk T N i))) := by
      by_cases w : sk T N i < N
      · rw [if_pos w, in_fig _ (hT _ w), if_neg (fun y => q ⟨w, y⟩)]
      · rw [if_neg w, in_spec]
        rfl
    rw [er, bi_some, if_pos (by decide), h2.2.2.1]
    unfold fX12_fails
    rw [lt_eq, bi_some, li1]
    refine ⟨_, rfl, (fun h => absurd h (by show ¬ 1 = 0; omega)), (fun h => absurd h (by show ¬ 1 = 0; omega)), (fun _ => by rw [st_at, if_pos rfl]), fun n k hh => ?_⟩
    rw [st_eq, if_neg (by omega), st_eq, if_neg (by omega)]
