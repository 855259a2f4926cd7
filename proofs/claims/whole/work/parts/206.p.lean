theorem Wc.harm {p0 V P : Nat} {w : Nat → Nat} (hw : Wc p0 V P w) (hP : P ≤ 7) (hV : V ≤ 4) {p x : Nat} (hp : p < P) (hx : x ≤ 9999) : Wc p0 V P (va_up w (19 + p) x) := by
  obtain ⟨⟨a1, a2, a3, a4, a5, a6⟩, b, c⟩ := hw
  refine ⟨⟨?_, ?_, ?_, ?_, ?_, ?_⟩, fun q hq => ?_, fun u hu => ?_⟩
  · simp only [va_up]
    rw [if_neg (by omega)]
    exact a1
  · simp only [va_up]
    rw [if_neg (by omega)]
    exact a2
  · simp only [va_up]
    rw [if_neg (by omega)]
    exact a3
  · simp only [va_up]
    rw [if_neg (by omega)]
    exact a4
  · simp only [va_up]
    rw [if_neg (by omega)]
    exact a5
  · simp only [va_up]
    rw [if_neg (by omega)]
    exact a6
  · have b := b q hq
    simp only [va_up]
    refine ⟨⟨?_, ?_⟩, ?_, ?_⟩ <;> split <;> omega
  · have c := c u hu
    simp only [va_up]
    split <;> omega
theorem Wc.fate {p0 V P : Nat} {w : Nat → Nat} (hw : Wc p0 V P w) (hP : P ≤ 7) (hV : V ≤ 4) {p x : Nat} (hp : p < P) (hx : x ≤ 99) : Wc p0 V P (va_up w (12 + p) x) := by
  obtain ⟨⟨a1, a2, a3, a4, a5, a6⟩, b, c⟩ := hw
  refine ⟨⟨?_, ?_, ?_, ?_, ?_, ?_⟩, fun q hq => ?_, fun u hu => ?_⟩
  · simp only [va_up]
    rw [if_neg (by omega)]
    exact a1
  · simp only [va_up]
    rw [if_neg (by omega)]
    exact a2
  · simp only [va_up]
    rw [if_neg (by omega)]
    exact a3
  · simp only [va_up]
    rw [if_neg (by omega)]
    exact a4
  · simp only [va_up]
    rw [if_neg (by omega)]
    exact a5
  · simp only [va_up]
    rw [if_neg (by omega)]
    exact a6
  · have b := b q hq
    simp only [va_up]
    refine ⟨⟨?_, ?_⟩, ?_, ?_⟩ <;> split <;> omega
  · have c := c u hu
    simp only [va_up]
    split <;> omega
theorem Wc.wit {p0 V P : Nat} {w : Nat → Nat} (hw : Wc p0 V P w) (hP : P ≤ 7) (hV : V ≤ 4) {p x : Nat} (hp : p < P) (hx : 1 ≤ x ∧ x ≤ 9) : Wc p0 V P (va_up w (5 + p) x) := by
  obtain ⟨⟨a1, a2, a3, a4, a5, a6⟩, b, c⟩ := hw
  refine ⟨⟨?_, ?_, ?_, ?_, ?_, ?_⟩, fun q hq => ?_, fun u hu => ?_⟩
  · simp only [va_up]
    rw [if_neg (by omega)]
    exact a1
  · simp only [va_up]
    rw [if_neg (by omega)]
    exact a2
  · simp only [va_up]
    rw [if_neg (by omega)]
    exact a3
  · simp only [va_up]
    rw [if_neg (by omega)]
    exact a4
  · simp only [va_up]
    rw [if_neg (by omega)]
    exact a5
  · simp only [va_up]
    rw [if_neg (by omega)]
    exact a6
  · have b := b q hq
    simp only [va_up]
    refine ⟨⟨?_, ?_⟩, ?_, ?_⟩ <;> split <;> omega
  · have c := c u hu
    simp only [va_up]
    split <;> omega
theorem Wc.bear {p0 V P : Nat} {w : Nat → Nat} (hw : Wc p0 V P w) (hP : P ≤ 7) (hV : V ≤ 4) {v x : Nat} (hv : v < V) (hx : x ≤ 99) : Wc p0 V P (va_up w (26 + v) x) := by
  obtain ⟨⟨a1, a2, a3, a4, a5, a6⟩, b, c⟩ := hw
  refine ⟨⟨?_, ?_, ?_, ?_, ?_, ?_⟩, fun q hq => ?_, fun u hu => ?_⟩
  · simp only [va_up]
    rw [if_neg (by omega)]
    exact a1
  · simp only [va_up]
    rw [if_neg (by omega)]
    exact a2
  · simp only [va_up]
    rw [if_neg (by omega)]
    exact a3
  · simp only [va_up]
    rw [if_neg (by omega)]
    exact a4
  · simp only [va_up]
    rw [if_neg (by omega)]
    exact a5
  · simp only [va_up]
    rw [if_neg (by omega)]
    exact a6
  · have b := b q hq
    simp only [va_up]
    refine ⟨⟨?_, ?_⟩, ?_, ?_⟩ <;> split <;> omega
  · have c := c u hu
    simp only [va_up]
    split <;> omega
theorem Wc.pat {p0 V P : Nat} {w : Nat → Nat} (hw : Wc p0 V P w) (hP : P ≤ 7) (hV : V ≤ 4) {x : Nat} (hx1 : x ≤ 20) (hx2 : p0 = 0 → x = 0) (hx3 : 0 < p0 → 0 < x) : Wc p0 V P (va_up w 0 x) := by
  obtain ⟨⟨a1, a2, a3, a4, a5, a6⟩, b, c⟩ := hw
  refine ⟨⟨?_, ?_, ?_, ?_, ?_, ?_⟩, fun q hq => ?_, fun u hu => ?_⟩
  · simp only [va_up, if_pos]
    first | exact hx | exact hx1 | exact hx2 | exact hx3 | omega
  · simp only [va_up, if_pos]
    first | exact hx | exact hx1 | exact hx2 | exact hx3 | omega
  · simp only [va_up, if_pos]
    first | exact hx | exact hx1 | exact hx2 | exact hx3 | omega
  · simp only [va_up]
    rw [if_neg (by omega)]
    exact a4
  · simp only [va_up]
    rw [if_neg (by omega)]
    exact a5
  · simp only [va_up]
    rw [if_neg (by omega)]
    exact a6
  · have b := b q hq
    simp only [va_up]
    refine ⟨⟨?_, ?_⟩, ?_, ?_⟩ <;> split <;> omega
  · have c := c u hu
    simp only [va_up]
    split <;> omega
theorem Wc.yrs {p0 V P : Nat} {w : Nat → Nat} (hw : Wc p0 V P w) (hP : P ≤ 7) (hV : V ≤ 4) {x : Nat} : Wc p0 V P (va_up w 1 x) := by
  obtain ⟨⟨a1, a2, a3, a4, a5, a6⟩, b, c⟩ := hw
  refine ⟨⟨?_, ?_, ?_, ?_, ?_, ?_⟩, fun q hq => ?_, fun u hu => ?_⟩
  · simp only [va_up]
    rw [if_neg (by omega)]
    exact a1
  · simp only [va_up]
    rw [if_neg (by omega)]
    exact a2
  · simp only [va_up]
    rw [if_neg (by omega)]
    exact a3
  · simp only [va_up]
    rw [if_neg (by omega)]
    exact a4
  · simp only [va_up]
    rw [if_neg (by omega)]
    exact a5
  · simp only [va_up]
    rw [if_neg (by omega)]
    exact a6
  · have b := b q hq
    simp only [va_up]
    refine ⟨⟨?_, ?_⟩, ?_, ?_⟩ <;> split <;> omega
  · have c := c u hu
    simp only [va_up]
    split <;> omega
theorem Wc.owed {p0 V P : Nat} {w : Nat → Nat} (hw : Wc p0 V P w) (hP : P ≤ 7) (hV : V ≤ 4) {x : Nat} (hx : x ≤ 9999) : Wc p0 V P (va_up w 2 x) := by
  obtain ⟨⟨a1, a2, a3, a4, a5, a6⟩, b, c⟩ := hw
  refine ⟨⟨?_, ?_, ?_, ?_, ?_, ?_⟩, fun q hq => ?_, fun u hu => ?_⟩
  · simp only [va_up]
    rw [if_neg (by omega)]
    exact a1
  · simp only [va_up]
    rw [if_neg (by omega)]
    exact a2
  · simp only [va_up]
    rw [if_neg (by omega)]
    exact a3
  · simp only [va_up, if_pos]
    first | exact hx | exact hx1 | exact hx2 | exact hx3 | omega
  · simp only [va_up]
    rw [if_neg (by omega)]
    exact a5
  · simp only [va_up]
    rw [if_neg (by omega)]
    exact a6
  · have b := b q hq
    simp only [va_up]
    refine ⟨⟨?_, ?_⟩, ?_, ?_⟩ <;> split <;> omega
  · have c := c u hu
    simp only [va_up]
    split <;> omega
theorem Wc.went {p0 V P : Nat} {w : Nat → Nat} (hw : Wc p0 V P w) (hP : P ≤ 7) (hV : V ≤ 4) {x : Nat} (hx : x < 2 ^ P) : Wc p0 V P (va_up w 3 x) := by
  obtain ⟨⟨a1, a2, a3, a4, a5, a6⟩, b, c⟩ := hw
  refine ⟨⟨?_, ?_, ?_, ?_, ?_, ?_⟩, fun q hq => ?_, fun u hu => ?_⟩
  · simp only [va_up]
    rw [if_neg (by omega)]
    exact a1
  · simp only [va_up]
    rw [if_neg (by omega)]
    exact a2
  · simp only [va_up]
    rw [if_neg (by omega)]
    exact a3
  · simp only [va_up]
    rw [if_neg (by omega)]
    exact a4
  · simp only [va_up, if_pos]
    first | exact hx | exact hx1 | exact hx2 | exact hx3 | omega
  · simp only [va_up]
    rw [if_neg (by omega)]
    exact a6
  · have b := b q hq
    simp only [va_up]
    refine ⟨⟨?_, ?_⟩, ?_, ?_⟩ <;> split <;> omega
  · have c := c u hu
    simp only [va_up]
    split <;> omega
theorem Wc.told {p0 V P : Nat} {w : Nat → Nat} (hw : Wc p0 V P w) (hP : P ≤ 7) (hV : V ≤ 4) {x : Nat} (hx : x < 2 ^ P) : Wc p0 V P (va_up w 4 x) := by
  obtain ⟨⟨a1, a2, a3, a4, a5, a6⟩, b, c⟩ := hw
  refine ⟨⟨?_, ?_, ?_, ?_, ?_, ?_⟩, fun q hq => ?_, fun u hu => ?_⟩
  · simp only [va_up]
    rw [if_neg (by omega)]
    exact a1
  · simp only [va_up]
    rw [if_neg (by omega)]
    exact a2
  · simp only [va_up]
    rw [if_neg (by omega)]
    exact a3
  · simp only [va_up]
    rw [if_neg (by omega)]
    exact a4
  · simp only [va_up]
    rw [if_neg (by omega)]
    exact a5
  · simp only [va_up, if_pos]
    first | exact hx | exact hx1 | exact hx2 | exact hx3 | omega
  · have b := b q hq
    simp only [va_up]
    refine ⟨⟨?_, ?_⟩, ?_, ?_⟩ <;> split <;> omega
  · have c := c u hu
    simp only [va_up]
    split <;> omega
/-- the year, step by step -/
def yr1 (P : Nat) (w : Nat → Nat) : Nat → Nat := fo (fun p w => va_up (hrt w p (w (12 + p))) (12 + p) 0) P 0 w
def yrh (P : Nat) (home : Nat → Nat) (v t : Nat) (w : Nat → Nat) : Nat → Nat := fo (fun p w => if home p = v then hrt w p (t / cnt (ofV P home v)) else w) P 0 w
def yrv (P : Nat) (home : Nat → Nat) (v : Nat) (w : Nat → Nat) : Nat → Nat := va_up (yrh P home v (tkn (ofV P home v) (w 4) (w (26 + v)) (w 2)) w) 2 (w 2 - tkn (ofV P home v) (w 4) (w (26 + v)) (w 2))
def yr2 (V P : Nat) (home : Nat → Nat) (w : Nat → Nat) : Nat → Nat := fo (fun v w => yrv P home v w) V 0 w
def yre (p0 : Nat) (w : Nat → Nat) : Nat → Nat := va_up (va_up (va_up (va_up w 0 p0) 1 (w 1 + 1)) 3 0) 4 0
def yr (a : Ab) (w : Nat → Nat) : Nat → Nat := yre (a 0 1) (yr2 (a 0 3) (a 0 4) (a 2) (yr1 (a 0 4) w))
theorem Wc.hrt {p0 V P : Nat} {w : Nat → Nat} (hw : Wc p0 V P w) (hP : P ≤ 7) (hV : V ≤ 4) {p x : Nat} (hp : p < P) : Wc p0 V P (hrt w p x) := by
  exact hw.harm hP hV hp (by split <;> omega)
theorem tkn_le (its told bear o : Nat) : tkn its told bear o ≤ o ∧ tkn its told bear o ≤ bear := by
  unfold tkn
  repeat' split
  all_goals omega
theorem mYear1 {a : Ab} {σ : Sg} (h : Hm a σ) (g : Gb a) {r : Nat} {w : Nat → Nat} (hr : r ≤ 30) (hw : Wc (a 0 1) (a 0 3) (a 0 4) w) (kx : Sg → Int32 → Option Sg) : fX12_yearOf_2 FU kx (wr σ r w) (nI r) 0 = kx (wr σ r (yr1 (a 0 4) w)) (nI r) ∧ Wc (a 0 1) (a 0 3) (a 0 4) (yr1 (a 0 4) w) := by
  have hP := gb_P g
  have hV := gb_V g
  rw [li0]
  refine loop0 (fun n i w => fX12_yearOf_2 n kx (wr σ r w) (nI r) (nI i)) (a 0 4) (by omega) (fun w => kx (wr σ r w) (nI r)) (fun i w => Wc (a 0 1) (a 0 3) (a 0 4) w) (fun p w => va_up (hrt w p (w (12 + p))) (12 + p) 0) ?_ ?_ ?_ w hw
  · intro n w hw
    have h2 := h.wr r w
    simp only [fX12_yearOf_2_s]
    unfold fX12_yearOf_2b
    simp (disch := omega) only [lt_eq, bi_some, bv_some, ↓lim1, pk_m1f, fI_add1, li0, li1, li2, li3, li4, li5, li6, li7, li8, li9, li10, li12, li15, li16, li19, li20, li26, li30, li31, li32, li48, li57, li59, li60, li64, li99, li100, li128, li240, li255, li480, li999, li1000, li9000, li9999, liF, nI_add, sb_nI, pk_mul, dv_nI, cl_nI, inbT, le_nI, lt_nI, eq_nI, fI_le, fI_eq, st_ne, st_at, iT, iF, Nat.zero_add, Nat.add_zero, not_true_eq_false, not_false_eq_true, true_and, and_true, false_and, and_false, or_true, true_or, or_false, false_or, Nat.reduceEqDiff, Nat.reduceLeDiff, Nat.reduceLT, Nat.reduceAdd, Nat.reduceSub, Nat.reduceMul, Nat.reduceDiv, Nat.reduceMod, ↓reduceIte, h2.2.2.1, Nat.le_refl]
  · intro n i w hi hw
    have h2 := h.wr r w
    have h12 := wc_fate hw hi
    have h19 := wc_harm hw hi
    simp only [fX12_yearOf_2_s]
    unfold fX12_yearOf_2b
    simp (disch := omega) only [lt_eq, bi_some, bv_some, ↓lim1, pk_m1f, fI_add1, li0, li1, li2, li3, li4, li5, li6, li7, li8, li9, li10, li12, li15, li16, li19, li20, li26, li30, li31, li32, li48, li57, li59, li60, li64, li99, li100, li128, li240, li255, li480, li999, li1000, li9000, li9999, liF, nI_add, sb_nI, pk_mul, dv_nI, cl_nI, inbT, le_nI, lt_nI, eq_nI, fI_le, fI_eq, st_ne, st_at, iT, iF, Nat.zero_add, Nat.add_zero, not_true_eq_false, not_false_eq_true, true_and, and_true, false_and, and_false, or_true, true_or, or_false, false_or, Nat.reduceEqDiff, Nat.reduceLeDiff, Nat.reduceLT, Nat.reduceAdd, Nat.reduceSub, Nat.reduceMul, Nat.reduceDiv, Nat.reduceMod, ↓reduceIte, h2.2.2.1, show ¬ a 0 4 ≤ i by omega, Nat.add_assoc, wr_at, mHarms hr hi hP h19 (show w (12 + i) ≤ 9999 by omega), wr_st]
  · intro i w hi hw
    exact (hw.hrt hP hV hi).fate hP hV hi (by omega)
