/-! the reference: a year's villages -/
theorem cnt_all : ∀ s : Fin 128, cnt s.val ≤ 7 ∧ ∀ k : Fin 7, bt s.val k.val = 1 → 0 < cnt s.val := by decide +kernel
theorem cnt_pos {s k : Nat} (hs : s < 128) (hk : k < 7) (h : bt s k = 1) : 0 < cnt s := (cnt_all ⟨s, hs⟩).2 ⟨k, hk⟩ h
theorem cnt_le {s : Nat} (hs : s < 128) : cnt s ≤ 7 := (cnt_all ⟨s, hs⟩).1
theorem hrt_0 {w : Nat → Nat} {p : Nat} (h : w (19 + p) ≤ 9999) : hrt w p 0 = w := by
  funext j
  unfold hrt va_up
  rw [Nat.add_zero, if_pos h]
  by_cases q : j = 19 + p
  · rw [if_pos q, q]
  · rw [if_neg q]
theorem mYear80 {a : Ab} {σ : Sg} (h : Hm a σ) (g : Gb a) {r v t : Nat} {w : Nat → Nat} (hr : r ≤ 30) (ht : t ≤ 99) (hw : Wc (a 0 1) (a 0 3) (a 0 4) w) (kx : Sg → Int32 → Int32 → Int32 → Option Sg) : fX12_yearOf_80 FU kx (wr σ r w) (nI r) (nI v) (nI (ofV (a 0 4) (a 2) v)) (nI t) 0 = kx (wr σ r (yrh (a 0 4) (a 2) v t w)) (nI r) (nI v) (nI t) ∧ Wc (a 0 1) (a 0 3) (a 0 4) (yrh (a 0 4) (a 2) v t w) := by
  have hP := gb_P g
  have hV := gb_V g
  have hl := ofV_lt hP (a 2) v
  rw [li0]
  refine loop0 (fun n i w => fX12_yearOf_80 n kx (wr σ r w) (nI r) (nI v) (nI (ofV (a 0 4) (a 2) v)) (nI t) (nI i)) (a 0 4) (by omega) (fun w => kx (wr σ r w) (nI r) (nI v) (nI t)) (fun i w => Wc (a 0 1) (a 0 3) (a 0 4) w) (fun p w => if a 2 p = v then hrt w p (t / cnt (ofV (a 0 4) (a 2) v)) else w) ?_ ?_ ?_ w hw
  · intro n w hw
    have h2 := h.wr r w
    simp only [fX12_yearOf_80_s]
    unfold fX12_yearOf_80b
    simp (disch := omega) only [lt_eq, bi_some, bv_some, ↓lim1, pk_m1f, fI_add1, li0, li1, li2, li3, li4, li5, li6, li7, li8, li9, li10, li12, li15, li16, li19, li20, li26, li30, li31, li32, li48, li57, li59, li60, li64, li99, li100, li128, li240, li255, li480, li999, li1000, li9000, li9999, liF, nI_add, sb_nI, pk_mul, dv_nI, cl_nI, inbT, le_nI, lt_nI, eq_nI, fI_le, fI_eq, st_ne, st_at, iT, iF, Nat.zero_add, Nat.add_zero, not_true_eq_false, not_false_eq_true, true_and, and_true, false_and, and_false, or_true, true_or, or_false, false_or, Nat.reduceEqDiff, Nat.reduceLeDiff, Nat.reduceLT, Nat.reduceAdd, Nat.reduceSub, Nat.reduceMul, Nat.reduceDiv, Nat.reduceMod, ↓reduceIte, h2.2.2.1, Nat.le_refl]
  · intro n i w hi hw
    have h2 := h.wr r w
    have h19 := wc_harm hw hi
    simp only [fX12_yearOf_80_s]
    unfold fX12_yearOf_80b
    rw [has_spec _ hl (show i < 7 by omega), ofV_bt hP (a 2) v hi]
    by_cases q : a 2 i = v
    · have hb : bt (ofV (a 0 4) (a 2) v) i = 1 := by rw [ofV_bt hP (a 2) v hi, if_pos q]
      have hc := cnt_pos hl (show i < 7 by omega) hb
      have hc2 := cnt_le hl
      have hd : t / cnt (ofV (a 0 4) (a 2) v) ≤ t := Nat.div_le_self _ _
      rw [if_pos q, if_pos q]
      simp (disch := omega) only [lt_eq, bi_some, bv_some, ↓lim1, pk_m1f, fI_add1, li0, li1, li2, li3, li4, li5, li6, li7, li8, li9, li10, li12, li15, li16, li19, li20, li26, li30, li31, li32, li48, li57, li59, li60, li64, li99, li100, li128, li240, li255, li480, li999, li1000, li9000, li9999, liF, nI_add, sb_nI, pk_mul, dv_nI, cl_nI, inbT, le_nI, lt_nI, eq_nI, fI_le, fI_eq, st_ne, st_at, iT, iF, Nat.zero_add, Nat.add_zero, not_true_eq_false, not_false_eq_true, true_and, and_true, false_and, and_false, or_true, true_or, or_false, false_or, Nat.reduceEqDiff, Nat.reduceLeDiff, Nat.reduceLT, Nat.reduceAdd, Nat.reduceSub, Nat.reduceMul, Nat.reduceDiv, Nat.reduceMod, ↓reduceIte, h2.2.2.1, show ¬ a 0 4 ≤ i by omega, mOnes _ hl]
      rw [if_pos (by omega)]
      unfold fX12_yearOf_113
      simp (disch := omega) only [lt_eq, bi_some, bv_some, ↓lim1, pk_m1f, fI_add1, li0, li1, li2, li3, li4, li5, li6, li7, li8, li9, li10, li12, li15, li16, li19, li20, li26, li30, li31, li32, li48, li57, li59, li60, li64, li99, li100, li128, li240, li255, li480, li999, li1000, li9000, li9999, liF, nI_add, sb_nI, pk_mul, dv_nI, cl_nI, inbT, le_nI, lt_nI, eq_nI, fI_le, fI_eq, st_ne, st_at, iT, iF, Nat.zero_add, Nat.add_zero, not_true_eq_false, not_false_eq_true, true_and, and_true, false_and, and_false, or_true, true_or, or_false, false_or, Nat.reduceEqDiff, Nat.reduceLeDiff, Nat.reduceLT, Nat.reduceAdd, Nat.reduceSub, Nat.reduceMul, Nat.reduceDiv, Nat.reduceMod, ↓reduceIte, mHarms hr hi hP h19 (show t / cnt (ofV (a 0 4) (a 2) v) ≤ 9999 by omega)]
    · rw [if_neg q, if_neg q]
      unfold fX12_yearOf_113
      simp (disch := omega) only [lt_eq, bi_some, bv_some, ↓lim1, pk_m1f, fI_add1, li0, li1, li2, li3, li4, li5, li6, li7, li8, li9, li10, li12, li15, li16, li19, li20, li26, li30, li31, li32, li48, li57, li59, li60, li64, li99, li100, li128, li240, li255, li480, li999, li1000, li9000, li9999, liF, nI_add, sb_nI, pk_mul, dv_nI, cl_nI, inbT, le_nI, lt_nI, eq_nI, fI_le, fI_eq, st_ne, st_at, iT, iF, Nat.zero_add, Nat.add_zero, not_true_eq_false, not_false_eq_true, true_and, and_true, false_and, and_false, or_true, true_or, or_false, false_or, Nat.reduceEqDiff, Nat.reduceLeDiff, Nat.reduceLT, Nat.reduceAdd, Nat.reduceSub, Nat.reduceMul, Nat.reduceDiv, Nat.reduceMod, ↓reduceIte, h2.2.2.1, show ¬ a 0 4 ≤ i by omega, mHarms hr hi hP h19 (show 0 ≤ 9999 by omega), hrt_0 h19]
  · intro i w hi hw
    show Wc _ _ _ (if a 2 i = v then hrt w i (t / cnt (ofV (a 0 4) (a 2) v)) else w)
    by_cases q : a 2 i = v
    · rw [if_pos q]; exact hw.hrt hP hV hi
    · rw [if_neg q]; exact hw
/-- a village's year leaves what is owed, told, the bears -/
theorem yrh_keep {P : Nat} (home : Nat → Nat) (v t : Nat) (w : Nat → Nat) {k : Nat} (hk : k < 19 ∨ 19 + P ≤ k) : yrh P home v t w k = w k := by
  have := fo_inv (fun i w' => w' k = w k) (f := fun p w => if home p = v then hrt w p (t / cnt (ofV P home v)) else w) P 0 w rfl (by
    intro j w' h1 h2 h3
    show (if home j = v then hrt w' j (t / cnt (ofV P home v)) else w') k = w k
    split
    · unfold hrt
      rw [va_up_ne _ _ (by omega)]; exact h3
    · exact h3)
  exact this
theorem mYear47 {a : Ab} {σ : Sg} (h : Hm a σ) (g : Gb a) {r : Nat} {w : Nat → Nat} (hr : r ≤ 30) (hw : Wc (a 0 1) (a 0 3) (a 0 4) w) (kx : Sg → Int32 → Option Sg) : fX12_yearOf_47 FU kx (wr σ r w) (nI r) 0 = kx (wr σ r (yr2 (a 0 3) (a 0 4) (a 2) w)) (nI r) ∧ Wc (a 0 1) (a 0 3) (a 0 4) (yr2 (a 0 3) (a 0 4) (a 2) w) := by
  have hP := gb_P g
  have hV := gb_V g
  rw [li0]
  refine loop0 (fun n i w => fX12_yearOf_47 n kx (wr σ r w) (nI r) (nI i)) (a 0 3) (by omega) (fun w => kx (wr σ r w) (nI r)) (fun i w => Wc (a 0 1) (a 0 3) (a 0 4) w) (fun v w => yrv (a 0 4) (a 2) v w) ?_ ?_ ?_ w hw
  · intro n w hw
    have h2 := h.wr r w
    simp only [fX12_yearOf_47_s]
    unfold fX12_yearOf_47b
    simp (disch := omega) only [lt_eq, bi_some, bv_some, ↓lim1, pk_m1f, fI_add1, li0, li1, li2, li3, li4, li5, li6, li7, li8, li9, li10, li12, li15, li16, li19, li20, li26, li30, li31, li32, li48, li57, li59, li60, li64, li99, li100, li128, li240, li255, li480, li999, li1000, li9000, li9999, liF, nI_add, sb_nI, pk_mul, dv_nI, cl_nI, inbT, le_nI, lt_nI, eq_nI, fI_le, fI_eq, st_ne, st_at, iT, iF, Nat.zero_add, Nat.add_zero, not_true_eq_false, not_false_eq_true, true_and, and_true, false_and, and_false, or_true, true_or, or_false, false_or, Nat.reduceEqDiff, Nat.reduceLeDiff, Nat.reduceLT, Nat.reduceAdd, Nat.reduceSub, Nat.reduceMul, Nat.reduceDiv, Nat.reduceMod, ↓reduceIte, h2.2.1, Nat.le_refl]
  · intro n i w hi hw
    have h2 := h.wr r w
    have ho := wc_owed hw
    have hb := wc_bear hw hi
    have htk := tkn_le (ofV (a 0 4) (a 2) i) (w 4) (w (26 + i)) (w 2)
    simp only [fX12_yearOf_47_s]
    unfold fX12_yearOf_47b
    simp (disch := omega) only [lt_eq, bi_some, bv_some, ↓lim1, pk_m1f, fI_add1, li0, li1, li2, li3, li4, li5, li6, li7, li8, li9, li10, li12, li15, li16, li19, li20, li26, li30, li31, li32, li48, li57, li59, li60, li64, li99, li100, li128, li240, li255, li480, li999, li1000, li9000, li9999, liF, nI_add, sb_nI, pk_mul, dv_nI, cl_nI, inbT, le_nI, lt_nI, eq_nI, fI_le, fI_eq, st_ne, st_at, iT, iF, Nat.zero_add, Nat.add_zero, not_true_eq_false, not_false_eq_true, true_and, and_true, false_and, and_false, or_true, true_or, or_false, false_or, Nat.reduceEqDiff, Nat.reduceLeDiff, Nat.reduceLT, Nat.reduceAdd, Nat.reduceSub, Nat.reduceMul, Nat.reduceDiv, Nat.reduceMod, ↓reduceIte, h2.2.1, show ¬ a 0 3 ≤ i by omega, mOfV h2 g (show i ≤ 4 by omega), wr_at, mTakes h g hr hi hw ho]
    unfold yrv
    generalize hT : tkn (ofV (a 0 4) (a 2) i) (w 4) (w (26 + i)) (w 2) = T at htk ⊢
    have k80 := fun kx => (mYear80 (v := i) h g hr (show T ≤ 99 by omega) hw kx).1
    rw [li0] at k80
    rw [k80]
    have e2 : yrh (a 0 4) (a 2) i T w 2 = w 2 := yrh_keep _ _ _ _ (by omega)
    simp (disch := omega) only [lt_eq, bi_some, bv_some, ↓lim1, pk_m1f, fI_add1, li0, li1, li2, li3, li4, li5, li6, li7, li8, li9, li10, li12, li15, li16, li19, li20, li26, li30, li31, li32, li48, li57, li59, li60, li64, li99, li100, li128, li240, li255, li480, li999, li1000, li9000, li9999, liF, nI_add, sb_nI, pk_mul, dv_nI, cl_nI, inbT, le_nI, lt_nI, eq_nI, fI_le, fI_eq, st_ne, st_at, iT, iF, Nat.zero_add, Nat.add_zero, not_true_eq_false, not_false_eq_true, true_and, and_true, false_and, and_false, or_true, true_or, or_false, false_or, Nat.reduceEqDiff, Nat.reduceLeDiff, Nat.reduceLT, Nat.reduceAdd, Nat.reduceSub, Nat.reduceMul, Nat.reduceDiv, Nat.reduceMod, ↓reduceIte, wr_at, e2, wr_st]
  · intro i w hi hw
    have ho := wc_owed hw
    have hb := wc_bear hw hi
    have htk := tkn_le (ofV (a 0 4) (a 2) i) (w 4) (w (26 + i)) (w 2)
    have k80 := (mYear80 (v := i) h g hr (show tkn (ofV (a 0 4) (a 2) i) (w 4) (w (26 + i)) (w 2) ≤ 99 by omega) hw (fun _ _ _ _ => none)).2
    exact k80.owed hP hV (by omega)
theorem Wc.yre {p0 V P : Nat} {w : Nat → Nat} (hw : Wc p0 V P w) (hP : P ≤ 7) (hV : V ≤ 4) (h0 : p0 ≤ 20) : Wc p0 V P (yre p0 w) := by
  have hp : 0 < 2 ^ P := Nat.pow_pos (by omega)
  exact (((hw.pat hP hV h0 (fun h => h) (fun h => h)).yrs hP hV).went hP hV hp).told hP hV hp
theorem mYear {a : Ab} {σ : Sg} (h : Hm a σ) (g : Gb a) {r : Nat} {w : Nat → Nat} (hr : r ≤ 30) (hw : Wc (a 0 1) (a 0 3) (a 0 4) w) (hy : w 1 ≤ 100000) : fX12_yearOf (wr σ r w) (nI r) = some (wr σ r (yr a w)) ∧ Wc (a 0 1) (a 0 3) (a 0 4) (yr a w) := by
  have hP := gb_P g
  have hV := gb_V g
  have h0 := gb_p0 g
  have y1 := mYear1 h g hr hw
  have w1 := (y1 (fun _ _ => none)).2
  have y2 := mYear47 h g hr w1
  have w2 := (y2 (fun _ _ => none)).2
  refine ⟨?_, w2.yre hP hV h0⟩
  unfold fX12_yearOf
  rw [(y1 _).1, (y2 _).1]
  have e1 : yr2 (a 0 3) (a 0 4) (a 2) (yr1 (a 0 4) w) 1 = w 1 := by
    have q1 : yr1 (a 0 4) w 1 = w 1 := fo_inv (fun i w' => w' 1 = w 1) (f := fun p w => va_up (hrt w p (w (12 + p))) (12 + p) 0) (a 0 4) 0 w rfl (by
      intro j w' h1 h2 h3
      show va_up (hrt w' j (w' (12 + j))) (12 + j) 0 1 = w 1
      unfold hrt
      rw [va_up_ne _ _ (by omega), va_up_ne _ _ (by omega)]; exact h3)
    have q2 := fo_inv (fun i w' => w' 1 = w 1) (f := fun v w => yrv (a 0 4) (a 2) v w) (a 0 3) 0 (yr1 (a 0 4) w) q1 (by
      intro j w' h1 h2 h3
      show yrv (a 0 4) (a 2) j w' 1 = w 1
      unfold yrv
      rw [va_up_ne _ _ (by omega), yrh_keep _ _ _ _ (by omega)]; exact h3)
    exact q2
  have h3 := h.wr r (yr2 (a 0 3) (a 0 4) (a 2) (yr1 (a 0 4) w))
  unfold yr yre
  generalize yr2 (a 0 3) (a 0 4) (a 2) (yr1 (a 0 4) w) = W at e1 h3 ⊢
  have e2 : ∀ x, va_up W 0 x 1 = W 1 := fun x => va_up_ne _ _ (by omega)
  have a0 := fun (w : Nat → Nat) => wr_at σ r w (k := 0) (by omega)
  have s0 := fun (w : Nat → Nat) v => wr_st σ r w (k := 0) (by omega) v
  rw [Nat.add_zero] at a0 s0
  simp (disch := omega) only [lt_eq, bi_some, bv_some, ↓lim1, pk_m1f, fI_add1, li0, li1, li2, li3, li4, li5, li6, li7, li8, li9, li10, li12, li15, li16, li19, li20, li26, li30, li31, li32, li48, li57, li59, li60, li64, li99, li100, li128, li240, li255, li480, li999, li1000, li9000, li9999, liF, nI_add, sb_nI, pk_mul, dv_nI, cl_nI, inbT, le_nI, lt_nI, eq_nI, fI_le, fI_eq, st_ne, st_at, iT, iF, Nat.zero_add, Nat.add_zero, not_true_eq_false, not_false_eq_true, true_and, and_true, false_and, and_false, or_true, true_or, or_false, false_or, Nat.reduceEqDiff, Nat.reduceLeDiff, Nat.reduceLT, Nat.reduceAdd, Nat.reduceSub, Nat.reduceMul, Nat.reduceDiv, Nat.reduceMod, ↓reduceIte, h3.1, s0, wr_at, wr_st, e2, e1]
