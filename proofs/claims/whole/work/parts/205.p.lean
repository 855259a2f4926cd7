/-! the reference: a year -/
theorem Hm.wr {a : Ab} {σ : Sg} (h : Hm a σ) (r : Nat) (w : Nat → Nat) : Hm a (wr σ r w) := by
  refine ⟨?_, ?_, ?_, fun p hp => ?_⟩
  · rw [wr_ne _ _ _ (by omega)]; exact h.1
  · rw [wr_ne _ _ _ (by omega)]; exact h.2.1
  · rw [wr_ne _ _ _ (by omega)]; exact h.2.2.1
  · rw [wr_ne _ _ _ (by omega)]; exact h.2.2.2 p hp
theorem mTakes {a : Ab} {σ : Sg} (h : Hm a σ) (g : Gb a) {r v o : Nat} {w : Nat → Nat} (hr : r ≤ 30) (hv : v < a 0 3) (hw : Wc (a 0 1) (a 0 3) (a 0 4) w) (ho : o ≤ 9999) : fX12_takes (wr σ r w) (nI r) (nI v) (nI o) = some (nI (tkn (ofV (a 0 4) (a 2) v) (w 4) (w (26 + v)) o), wr σ r w) := by
  have hV := gb_V g
  have hP := gb_P g
  have hb := wc_bear hw hv
  have hl := ofV_lt hP (a 2) v
  have hs := (wc_set hw hP).2
  unfold fX12_takes
  rw [mOfV (h.wr r w) g (by omega)]
  generalize hI : ofV (a 0 4) (a 2) v = its at hl ⊢
  unfold fX12_takes_30 fX12_takes_31 tkn
  simp (disch := omega) only [lt_eq, bi_some, bv_some, ↓lim1, pk_m1f, fI_add1, li0, li1, li2, li3, li4, li5, li6, li7, li8, li9, li10, li12, li15, li16, li19, li20, li26, li30, li31, li32, li48, li57, li59, li60, li64, li99, li100, li128, li240, li255, li480, li999, li1000, li9000, li9999, liF, nI_add, sb_nI, pk_mul, dv_nI, cl_nI, inbT, le_nI, lt_nI, eq_nI, fI_le, fI_eq, st_ne, st_at, iT, iF, Nat.zero_add, Nat.add_zero, not_true_eq_false, not_false_eq_true, true_and, and_true, false_and, and_false, or_true, true_or, or_false, false_or, Nat.reduceEqDiff, Nat.reduceLeDiff, Nat.reduceLT, Nat.reduceAdd, Nat.reduceSub, Nat.reduceMul, Nat.reduceDiv, Nat.reduceMod, ↓reduceIte, Nat.add_assoc, wr_at]
  by_cases q : its = 0
  · rw [if_pos q, if_pos q]
  · rw [if_neg q, if_neg q]
    by_cases q2 : nI its &&& nI (w 4) = nI 0
    · rw [if_pos q2, if_pos q2]
      by_cases q3 : w (26 + v) ≤ o
      · rw [if_pos q3, if_pos q3]
      · rw [if_neg q3, if_neg q3]
    · rw [if_neg q2, if_neg q2]
theorem mHarms {P : Nat} {σ : Sg} {r p x : Nat} {w : Nat → Nat} (hr : r ≤ 30) (hp : p < P) (hP : P ≤ 7) (hw : w (19 + p) ≤ 9999) (hx : x ≤ 9999) : fX12_harms (wr σ r w) (nI r) (nI p) (nI x) = some (wr σ r (hrt w p x)) := by
  unfold fX12_harms fX12_harms_41 hrt
  simp (disch := omega) only [lt_eq, bi_some, bv_some, ↓lim1, pk_m1f, fI_add1, li0, li1, li2, li3, li4, li5, li6, li7, li8, li9, li10, li12, li15, li16, li19, li20, li26, li30, li31, li32, li48, li57, li59, li60, li64, li99, li100, li128, li240, li255, li480, li999, li1000, li9000, li9999, liF, nI_add, sb_nI, pk_mul, dv_nI, cl_nI, inbT, le_nI, lt_nI, eq_nI, fI_le, fI_eq, st_ne, st_at, iT, iF, Nat.zero_add, Nat.add_zero, not_true_eq_false, not_false_eq_true, true_and, and_true, false_and, and_false, or_true, true_or, or_false, false_or, Nat.reduceEqDiff, Nat.reduceLeDiff, Nat.reduceLT, Nat.reduceAdd, Nat.reduceSub, Nat.reduceMul, Nat.reduceDiv, Nat.reduceMod, ↓reduceIte, Nat.add_assoc, wr_at, wr_st]
  by_cases q : w (19 + p) + x ≤ 9999
  · rw [if_pos q, if_pos q]
  · rw [if_neg q, if_neg q]
