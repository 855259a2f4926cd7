/-! the class: what is tried -/
theorem fo_last {α : Type} (f : Nat → α → α) : ∀ (d i : Nat) (a : α), fo f (d + 1) i a = f (i + d) (fo f d i a) := by
  intro d
  induction d with
  | zero => intro i a; rfl
  | succ d ih =>
    intro i a
    show fo f (d + 1) (i + 1) (f i a) = f (i + (d + 1)) (fo f d (i + 1) (f i a))
    rw [ih (i + 1) (f i a), show i + 1 + d = i + (d + 1) by omega]
theorem cHad {a : Ab} {h : Nat} {σ : Sg} (x : Cs a h (a 4) σ) (g : Gb a) {v : Nat} (hv : v < a 0 3) : fX2_had σ (nI v) = some (nI (had a v), σ) := by
  have hV := gb_V g
  have ho := wc_owed (gb_w g)
  unfold fX2_had had
  rw [cs_owed x, lt_eq, li0, fo_last, Nat.zero_add]
  have l := loop0 (fun n i (s : Nat × Nat) => fX2_had_10 n (fun σ_6 x1_6 x2_6 => bi (fX2_taken σ_6 x1_6 x2_6) (fun r_7 σ_7 => some (r_7, σ_7))) σ (nI v) (nI s.1) (nI i)) v (by omega) (fun s => bi (fX2_taken σ (nI v) (nI s.1)) (fun r_7 σ_7 => some (r_7, σ_7))) (fun i s => s.1 ≤ 9999) (fun u (s : Nat × Nat) => (s.1 - tkn (ofV (a 0 4) (a 2) u) (a 4 4) (a 4 (26 + u)) s.1, tkn (ofV (a 0 4) (a 2) u) (a 4 4) (a 4 (26 + u)) s.1)) (by
    intro n s hs
    simp only [fX2_had_10_s]
    unfold fX2_had_10b
    simp (disch := omega) only [lt_eq, bi_some, bv_some, ↓lim1, pk_m1f, fI_add1, li0, li1, li2, li3, li4, li5, li6, li7, li8, li9, li10, li12, li15, li16, li19, li20, li26, li30, li31, li32, li48, li57, li59, li60, li64, li99, li100, li128, li240, li255, li480, li999, li1000, li9000, li9999, liF, nI_add, sb_nI, pk_mul, dv_nI, cl_nI, inbT, le_nI, lt_nI, eq_nI, fI_le, fI_eq, st_ne, st_at, iT, iF, Nat.zero_add, Nat.add_zero, not_true_eq_false, not_false_eq_true, true_and, and_true, false_and, and_false, or_true, true_or, or_false, false_or, Nat.reduceEqDiff, Nat.reduceLeDiff, Nat.reduceLT, Nat.reduceAdd, Nat.reduceSub, Nat.reduceMul, Nat.reduceDiv, Nat.reduceMod, ↓reduceIte, Nat.le_refl]) (by
    intro n i s hi hs
    have htk := tkn_le (ofV (a 0 4) (a 2) i) (a 4 4) (a 4 (26 + i)) s.1
    simp only [fX2_had_10_s]
    unfold fX2_had_10b
    simp (disch := omega) only [lt_eq, bi_some, bv_some, ↓lim1, pk_m1f, fI_add1, li0, li1, li2, li3, li4, li5, li6, li7, li8, li9, li10, li12, li15, li16, li19, li20, li26, li30, li31, li32, li48, li57, li59, li60, li64, li99, li100, li128, li240, li255, li480, li999, li1000, li9000, li9999, liF, nI_add, sb_nI, pk_mul, dv_nI, cl_nI, inbT, le_nI, lt_nI, eq_nI, fI_le, fI_eq, st_ne, st_at, iT, iF, Nat.zero_add, Nat.add_zero, not_true_eq_false, not_false_eq_true, true_and, and_true, false_and, and_false, or_true, true_or, or_false, false_or, Nat.reduceEqDiff, Nat.reduceLeDiff, Nat.reduceLT, Nat.reduceAdd, Nat.reduceSub, Nat.reduceMul, Nat.reduceDiv, Nat.reduceMod, ↓reduceIte, show ¬ v ≤ i by omega, cTaken x g (gb_w g) (show i < a 0 3 by omega) hs]) (by
    intro i s hi hs
    show s.1 - _ ≤ 9999
    omega) (a 4 2, 0) ho
  rw [l.1, cTaken x g (gb_w g) hv l.2, bi_some]
/-- what all villages can take -/
def sct (a : Ab) (t : Nat) (w : Nat → Nat) : Nat := fo (fun v s => s + ct (ofV (a 0 4) (a 2) v) t (w (26 + v))) (a 0 3) 0 0
theorem sct_le {a : Ab} (g : Gb a) {t : Nat} {w : Nat → Nat} (hw : Wc (a 0 1) (a 0 3) (a 0 4) w) : sct a t w ≤ 396 := by
  have hV := gb_V g
  have := fo_inv (fun i s => s ≤ 99 * i) (f := fun v s => s + ct (ofV (a 0 4) (a 2) v) t (w (26 + v))) (a 0 3) 0 0 (by omega) (by
    intro j s h1 h2 h3
    have hb := wc_bear hw (show j < a 0 3 by omega)
    have hc := ct_le (ofV (a 0 4) (a 2) j) t (w (26 + j))
    show s + ct _ _ _ ≤ 99 * (j + 1)
    omega)
  rw [Nat.zero_add] at this
  exact Nat.le_trans this (by omega)
theorem cTog {a : Ab} {h : Nat} {w : Nat → Nat} {σ : Sg} (x : Cs a h w σ) (g : Gb a) (hw : Wc (a 0 1) (a 0 3) (a 0 4) w) (t : Nat) : fX2_canTakeTogether σ (unt a t) = some (nI (sct a t w), σ) := by
  have hV := gb_V g
  unfold fX2_canTakeTogether
  rw [li0]
  refine (loop0 (fun n i s => fX2_canTakeTogether_4 n (fun σ_6 x2_6 => some (x2_6, σ_6)) σ (unt a t) (nI s) (nI i)) (a 0 3) (by omega) (fun s => some (nI s, σ)) (fun i s => s ≤ 99 * i) (fun v s => s + ct (ofV (a 0 4) (a 2) v) t (w (26 + v))) ?_ ?_ ?_ 0 (by omega)).1
  · intro n s hs
    simp only [fX2_canTakeTogether_4_s]
    unfold fX2_canTakeTogether_4b
    rw [hl_gk x.1, hl_V x.1]
    simp (disch := omega) only [lt_eq, bi_some, bv_some, ↓lim1, pk_m1f, fI_add1, li0, li1, li2, li3, li4, li5, li6, li7, li8, li9, li10, li12, li15, li16, li19, li20, li26, li30, li31, li32, li48, li57, li59, li60, li64, li99, li100, li128, li240, li255, li480, li999, li1000, li9000, li9999, liF, nI_add, sb_nI, pk_mul, dv_nI, cl_nI, inbT, le_nI, lt_nI, eq_nI, fI_le, fI_eq, st_ne, st_at, iT, iF, Nat.zero_add, Nat.add_zero, not_true_eq_false, not_false_eq_true, true_and, and_true, false_and, and_false, or_true, true_or, or_false, false_or, Nat.reduceEqDiff, Nat.reduceLeDiff, Nat.reduceLT, Nat.reduceAdd, Nat.reduceSub, Nat.reduceMul, Nat.reduceDiv, Nat.reduceMod, ↓reduceIte, Nat.le_refl]
  · intro n i s hi hs
    simp only [fX2_canTakeTogether_4_s]
    unfold fX2_canTakeTogether_4b
    rw [hl_gk x.1, hl_V x.1]
    simp (disch := omega) only [lt_eq, bi_some, bv_some, ↓lim1, pk_m1f, fI_add1, li0, li1, li2, li3, li4, li5, li6, li7, li8, li9, li10, li12, li15, li16, li19, li20, li26, li30, li31, li32, li48, li57, li59, li60, li64, li99, li100, li128, li240, li255, li480, li999, li1000, li9000, li9999, liF, nI_add, sb_nI, pk_mul, dv_nI, cl_nI, inbT, le_nI, lt_nI, eq_nI, fI_le, fI_eq, st_ne, st_at, iT, iF, Nat.zero_add, Nat.add_zero, not_true_eq_false, not_false_eq_true, true_and, and_true, false_and, and_false, or_true, true_or, or_false, false_or, Nat.reduceEqDiff, Nat.reduceLeDiff, Nat.reduceLT, Nat.reduceAdd, Nat.reduceSub, Nat.reduceMul, Nat.reduceDiv, Nat.reduceMod, ↓reduceIte, show ¬ a 0 3 ≤ i by omega, cCan x g t hi]
  · intro i s hi hs
    have hb := wc_bear hw hi
    have hc := ct_le (ofV (a 0 4) (a 2) i) t (w (26 + i))
    show s + ct _ _ _ ≤ 99 * (i + 1)
    omega
theorem yr1_keep {P : Nat} (w : Nat → Nat) {k : Nat} (hk : k < 12 ∨ 19 + P ≤ k) (hP : P ≤ 7) : yr1 P w k = w k := by
  have := fo_inv (fun i w' => w' k = w k) (f := fun p w => va_up (hrt w p (w (12 + p))) (12 + p) 0) P 0 w rfl (by
    intro j w' h1 h2 h3
    show va_up (hrt w' j (w' (12 + j))) (12 + j) 0 k = w k
    unfold hrt
    rw [va_up_ne _ _ (by omega), va_up_ne _ _ (by omega)]; exact h3)
  exact this
theorem yr2_all {a : Ab} (g : Gb a) (w : Nat → Nat) : yr2 (a 0 3) (a 0 4) (a 2) w 2 = w 2 - sct a (w 4) w ∧ ∀ v, v < a 0 3 → yr2 (a 0 3) (a 0 4) (a 2) w (26 + v) = w (26 + v) := by
  have hP := gb_P g
  have := fo_rel (fun i (W : Nat → Nat) s => W 2 = w 2 - s ∧ W 4 = w 4 ∧ ∀ v, v < a 0 3 → W (26 + v) = w (26 + v)) (f := fun v w => yrv (a 0 4) (a 2) v w) (g := fun v s => s + ct (ofV (a 0 4) (a 2) v) (w 4) (w (26 + v))) (a 0 3) 0 w 0 ⟨by omega, rfl, fun v hv => rfl⟩ (by
    intro j W s h1 h2 ⟨h3, h4, h5⟩
    refine ⟨?_, ?_, fun v hv => ?_⟩
    · show yrv (a 0 4) (a 2) j W 2 = _
      unfold yrv
      rw [va_up_self, tkn_ct, h4, h5 j (by omega), h3]
      split <;> omega
    · show yrv (a 0 4) (a 2) j W 4 = _
      unfold yrv
      rw [va_up_ne _ _ (by omega), yrh_keep _ _ _ _ (by omega)]; exact h4
    · show yrv (a 0 4) (a 2) j W (26 + v) = _
      unfold yrv
      rw [va_up_ne _ _ (by omega), yrh_keep _ _ _ _ (by omega)]; exact h5 v hv)
  exact ⟨this.1, this.2.2⟩
theorem yr_2 {a : Ab} (g : Gb a) (w : Nat → Nat) : yr a w 2 = w 2 - sct a (w 4) w := by
  have hP := gb_P g
  unfold yr yre
  rw [va_up_ne _ _ (by omega), va_up_ne _ _ (by omega), va_up_ne _ _ (by omega), va_up_ne _ _ (by omega), (yr2_all g (yr1 (a 0 4) w)).1, yr1_keep w (by omega) hP, yr1_keep w (by omega) hP]
  congr 1
  unfold sct
  exact fo_congr _ _ _ (fun j b h1 h2 => by rw [yr1_keep w (by omega) hP])
theorem yr_4 (a : Ab) (w : Nat → Nat) : yr a w 4 = 0 := by
  unfold yr yre
  exact va_up_self _ _ _
theorem yr_26 {a : Ab} (g : Gb a) (w : Nat → Nat) {v : Nat} (hv : v < a 0 3) : yr a w (26 + v) = w (26 + v) := by
  have hP := gb_P g
  unfold yr yre
  rw [va_up_ne _ _ (by omega), va_up_ne _ _ (by omega), va_up_ne _ _ (by omega), va_up_ne _ _ (by omega), (yr2_all g (yr1 (a 0 4) w)).2 v hv, yr1_keep w (by omega) hP]
theorem cBorne {a : Ab} {h : Nat} {σ : Sg} (x : Cs a h (a 4) σ) (g : Gb a) : fX2_isBorne σ = some (nI (bor a), σ) := by
  have ho := wc_owed (gb_w g)
  have hs := sct_le g (t := a 4 4) (gb_w g)
  unfold fX2_isBorne bor
  rw [cUntold x g, bi_some, show (nI (2 ^ a 0 4) - nI 1) &&& (nI (a 4 4) ^^^ fI 0) = unt a (a 4 4) from rfl, cTog x g (gb_w g), bi_some, cs_owed x, yr_2 g]
  by_cases q : sct a (a 4 4) (a 4) < a 4 2
  · rw [if_pos (show nI (sct a (a 4 4) (a 4)) < nI (a 4 2) by rw [lt_nI (by omega) (by omega)]; exact q), if_neg (by omega)]; rfl
  · rw [if_neg (show ¬ nI (sct a (a 4 4) (a 4)) < nI (a 4 2) by rw [lt_nI (by omega) (by omega)]; exact q), if_pos (by omega)]; rfl
theorem sct_cg {a : Ab} {t : Nat} {w w' : Nat → Nat} (e : ∀ v, v < a 0 3 → w' (26 + v) = w (26 + v)) : sct a t w' = sct a t w := by
  unfold sct
  exact fo_congr _ _ _ (fun j b h1 h2 => by rw [e j (by omega)])
theorem cMade_loop {a : Ab} {h : Nat} {σ : Sg} (x : Cs a h (a 4) σ) (g : Gb a) : ∀ (d n fu : Nat) (w : Nat → Nat) (y : Int32), n + d = 61 → d < fu → w 2 ≤ 9999 → (∀ v, v < a 0 3 → w (26 + v) = a 4 (26 + v)) → (n = 0 → w = a 4) → (0 < n → w 4 = 0) → (y = nI (w 2) ∨ (¬ 0 < y ∧ w 2 = 0)) → fX2_madeUp_22 fu (fun σ_12 => some ((-1), σ_12)) σ y (nI (sct a 0 (a 4))) (nI n) = some (fI (mu a d n w), σ) := by
  intro d
  induction d with
  | zero =>
    intro n fu w y h1 h2 _ _ _ _ _
    cases fu with
    | zero => omega
    | succ fu =>
      rw [fX2_madeUp_22_s]
      unfold fX2_madeUp_22b mu
      simp (disch := omega) only [lt_eq, bi_some, bv_some, ↓lim1, pk_m1f, fI_add1, li0, li1, li2, li3, li4, li5, li6, li7, li8, li9, li10, li12, li15, li16, li19, li20, li26, li30, li31, li32, li48, li57, li59, li60, li64, li99, li100, li128, li240, li255, li480, li999, li1000, li9000, li9999, liF, nI_add, sb_nI, pk_mul, dv_nI, cl_nI, inbT, le_nI, lt_nI, eq_nI, fI_le, fI_eq, st_ne, st_at, iT, iF, Nat.zero_add, Nat.add_zero, not_true_eq_false, not_false_eq_true, true_and, and_true, false_and, and_false, or_true, true_or, or_false, false_or, Nat.reduceEqDiff, Nat.reduceLeDiff, Nat.reduceLT, Nat.reduceAdd, Nat.reduceSub, Nat.reduceMul, Nat.reduceDiv, Nat.reduceMod, ↓reduceIte, show 60 < n by omega]
  | succ d ih =>
    intro n fu w y h1 h2 h3 h4 h5 h6 h7
    cases fu with
    | zero => omega
    | succ fu =>
      have hs := sct_le g (t := 0) (gb_w g)
      have hs2 := sct_le g (t := a 4 4) (gb_w g)
      rw [fX2_madeUp_22_s]
      unfold fX2_madeUp_22b mu
      rw [if_neg (show ¬ (60 : Int32) < nI n by rw [li60, lt_nI (by omega) (by omega)]; omega)]
      by_cases q : w 2 = 0
      · have hy : ¬ 0 < y := by
          rcases h7 with z | z
          · rw [z, q]; decide
          · exact z.1
        rw [if_neg hy, if_pos q, fI_s]
      · have hy : y = nI (w 2) := by
          rcases h7 with z | z
          · exact z
          · exact absurd z.2 q
        have key : ∀ S, S = sct a (w 4) w → S ≤ 396 → fX2_madeUp_51 (fX2_madeUp_22 fu (fun σ_12 => some ((-1), σ_12))) (fun σ_12 => some ((-1), σ_12)) σ (nI (sct a 0 (a 4))) (nI n) (nI S) (nI (w 2)) = some (fI (mu a d (n + 1) (yr a w)), σ) := by
          intro S hS hS2
          unfold fX2_madeUp_51
          rw [lt_eq, li1, nI_add, lt_eq]
          have y2 : yr a w 2 = w 2 - S := by rw [yr_2 g, hS]
          refine ih (n + 1) fu (yr a w) _ (by omega) (by omega) (by omega) (fun v hv => by rw [yr_26 g w hv]; exact h4 v hv) (fun c => by omega) (fun _ => yr_4 a w) ?_
          rw [y2]
          by_cases c : S ≤ w 2
          · exact Or.inl (sb_nI c)
          · refine Or.inr ⟨?_, by omega⟩
            rw [Int32.lt_iff_toInt_lt, pk_sub_toInt (by omega) (by omega), show (0 : Int32).toInt = 0 from rfl]
            omega
        rw [hy, if_pos (show (0 : Int32) < nI (w 2) by rw [li0, lt_nI (by omega) (by omega)]; omega), if_neg q]
        by_cases z : n = 0
        · have hw := h5 z
          rw [if_pos (show nI n = 0 by rw [z]; rfl), cUntold x g, bi_some, show (nI (2 ^ a 0 4) - nI 1) &&& (nI (a 4 4) ^^^ fI 0) = unt a (a 4 4) from rfl, cTog x g (gb_w g), bi_some]
          exact key _ (by rw [hw]) hs2
        · rw [if_neg (show ¬ nI n = 0 by rw [li0, eq_nI (by omega) (by omega)]; exact z)]
          exact key _ (by rw [h6 (by omega)]; exact (sct_cg h4).symm) hs
theorem cMade {a : Ab} {h : Nat} {σ : Sg} (x : Cs a h (a 4) σ) (g : Gb a) : fX2_madeUp σ = some (fI (mu a 61 0 (a 4)), σ) := by
  have hP := gb_P g
  have ho := wc_owed (gb_w g)
  have ev : fX4_everybody h σ = some (unt a 0, σ) := by
    unfold fX4_everybody
    rw [hl_P x.1, sh_nI (by omega), unt_0, ← li1]
  unfold fX2_madeUp
  rw [cs_owed x, lt_eq, hl_gk x.1, ev, bi_some, cTog x g (gb_w g), bi_some, li0]
  exact cMade_loop x g 61 0 FU (a 4) _ rfl (by have := FU_ge; omega) ho (fun _ _ => rfl) (fun _ => rfl) (fun c => by omega) (Or.inl rfl)
theorem bgn_mono (gg : Nat → Nat) {stp : Nat} : ∀ (r t f f' : Nat), f ≤ f' → (bgn gg stp r t f).1 ≤ (bgn gg stp r t f').1 := by
  intro r
  induction r with
  | zero => intro t f f' hf; exact hf
  | succ r ih =>
    intro t f f' hf
    unfold bgn
    by_cases h : f = 0
    · rw [if_pos h]; show f ≤ _; omega
    · rw [if_neg h, if_neg (show ¬ f' = 0 by omega)]
      apply ih
      by_cases q : 0 < r ∧ 0 < f - gg t ∧ t % 3 = 2
      · rw [if_pos q, if_pos (show 0 < r ∧ 0 < f' - gg t ∧ t % 3 = 2 by omega)]
        split <;> split <;> omega
      · rw [if_neg q]
        by_cases q2 : 0 < r ∧ 0 < f' - gg t ∧ t % 3 = 2
        · rw [if_pos q2]
          split <;> omega
        · rw [if_neg q2]; omega
theorem bgn_0 (gg : Nat → Nat) {stp : Nat} : ∀ (r t : Nat), (bgn gg stp r t 0).1 = 0 := by
  intro r t
  cases r with
  | zero => rfl
  | succ r => unfold bgn; rw [if_pos rfl]
theorem rid_is (a : Ab) (p : Nat) : (brg a p (rid a p)).1 = 0 ∧ rid a p ≤ 99 ∧ ∀ n, n ≤ 99 → (brg a p n).1 = 0 → n ≤ rid a p := by
  have := fo_inv (fun i m => (brg a p m).1 = 0 ∧ m ≤ i - 1 ∧ ∀ n, n < i → (brg a p n).1 = 0 → n ≤ m) (f := fun n m => if (brg a p n).1 = 0 then n else m) 100 0 0 ⟨bgn_0 _ _ _, by omega, fun n hn => by omega⟩ (by
    intro j m h1 h2 ⟨h3, h4, h5⟩
    by_cases q : (brg a p j).1 = 0
    · simp only [if_pos q]
      exact ⟨q, by omega, fun n hn _ => by omega⟩
    · simp only [if_neg q]
      refine ⟨h3, by omega, fun n hn hz => ?_⟩
      rcases (show n < j ∨ n = j by omega) with c | c
      · exact h5 n c hz
      · rw [c] at hz; exact absurd hz q)
  exact ⟨this.1, by have := this.2.1; unfold rid; omega, fun n hn hz => this.2.2 n (by omega) hz⟩
theorem rid_iff (a : Ab) (p n : Nat) (hn : n ≤ 99) : (brg a p n).1 = 0 ↔ n ≤ rid a p := by
  have r := rid_is a p
  constructor
  · exact r.2.2 n hn
  · intro h
    have : (brg a p n).1 ≤ (brg a p (rid a p)).1 := bgn_mono _ _ _ _ _ h
    omega
theorem cRid_loop {a : Ab} {h : Nat} {σ : Sg} (x : Cs a h (a 4) σ) (g : Gb a) {p : Nat} (hp : p < a 0 4) : ∀ (d fu m : Nat) (u v : Int32), d ≤ 7 → d < fu → m ≤ rid a p → rid a p < m + 2 ^ d → ∃ u' v', fX2_rid_5 fu (fun σ_7 x2_7 => some (x2_7, σ_7)) (bs σ u v) (nI p) (nI m) (nI (2 ^ d / 2)) = some (nI (rid a p), bs σ u' v') := by
  intro d
  induction d with
  | zero =>
    intro fu m u v h0 h1 h2 h3
    cases fu with
    | zero => omega
    | succ fu =>
      have : m = rid a p := by omega
      refine ⟨u, v, ?_⟩
      rw [fX2_rid_5_s]
      unfold fX2_rid_5b
      rw [if_pos (by decide), this]
  | succ d ih =>
    intro fu m u v h0 h1 h2 h3
    cases fu with
    | zero => omega
    | succ fu =>
      have hr := (rid_is a p).2.1
      have hpw : 2 ^ (d + 1) / 2 = 2 ^ d := by rw [Nat.pow_succ, Nat.mul_div_cancel _ (by omega)]
      have hpw2 : 2 ^ (d + 1) = 2 * 2 ^ d := by rw [Nat.pow_succ, Nat.mul_comm]
      have hd : 2 ^ d ≤ 64 := Nat.pow_le_pow_right (j := 6) (by omega) (by omega)
      have hd0 : 0 < 2 ^ d := Nat.pow_pos (by omega)
      rw [fX2_rid_5_s]
      unfold fX2_rid_5b fX2_rid_34
      rw [hpw, if_neg (show ¬ nI (2 ^ d) ≤ 0 by rw [li0, le_nI (by omega) (by omega)]; omega), lt_eq, nI_add, li2, dv_nI (by omega) (by omega) (by omega)]
      by_cases q : 99 < m + 2 ^ d
      · rw [if_pos (show (99 : Int32) < nI (m + 2 ^ d) by rw [li99, lt_nI (by omega) (by omega)]; exact q), lt_eq]
        exact ih fu m u v (by omega) (by omega) h2 (by omega)
      · rw [if_neg (show ¬ (99 : Int32) < nI (m + 2 ^ d) by rw [li99, lt_nI (by omega) (by omega)]; exact q), cLeft (x.bs u v) g hp (by omega), bi_some, lt_eq, lt_eq, bs_bs]
        have hb := (brg_le g (p := p) (f := m + 2 ^ d) (by omega)).1
        have hi := rid_iff a p (m + 2 ^ d) (by omega)
        by_cases z : (brg a p (m + 2 ^ d)).1 = 0
        · rw [if_pos (show nI (brg a p (m + 2 ^ d)).1 = 0 by rw [z]; rfl)]
          exact ih fu (m + 2 ^ d) _ _ (by omega) (by omega) (hi.mp z) (by omega)
        · rw [if_neg (show ¬ nI (brg a p (m + 2 ^ d)).1 = 0 by rw [li0, eq_nI (by omega) (by omega)]; exact z)]
          exact ih fu m _ _ (by omega) (by omega) h2 (by
            have : ¬ m + 2 ^ d ≤ rid a p := fun c => z (hi.mpr c)
            omega)
theorem cRid {a : Ab} {h : Nat} {σ : Sg} (x : Cs a h (a 4) σ) (g : Gb a) {p : Nat} (hp : p < a 0 4) : ∃ u v, fX2_rid σ (nI p) = some (nI (rid a p), bs σ u v) := by
  unfold fX2_rid
  have := cRid_loop x g hp 7 FU 0 (σ 16 0) (σ 16 1) (by omega) (by have := FU_ge; omega) (Nat.zero_le _) (by have := (rid_is a p).2.1; omega)
  rw [bs_self] at this
  exact this
