/-! the reference: who goes up -/
def ff (c : Nat → Bool) : Nat → Nat → Nat
  | 0, _ => 0
  | d + 1, q => if c q = true then q + 1 else ff c d (q + 1)
def gc (a : Ab) (p s : Nat) : Nat → Bool := fun q => decide (0 < a 4 (12 + p) ∧ bt s q = 0 ∧ lf a p q + ls a (a 0 4 - (p + 1)) (p + 1) (ins s q) = ls a (a 0 4 - p) p s)
theorem ff_le (c : Nat → Bool) : ∀ d q, ff c d q ≤ q + d := by
  intro d
  induction d with
  | zero => intro q; exact Nat.zero_le _
  | succ d ih =>
    intro q
    unfold ff
    split
    · omega
    · have := ih (q + 1); omega
theorem ff_none {c : Nat → Bool} (h : ∀ q, c q = false) : ∀ d q, ff c d q = 0 := by
  intro d
  induction d with
  | zero => intro q; rfl
  | succ d ih =>
    intro q
    unfold ff
    rw [if_neg (by rw [h q]; decide)]
    exact ih (q + 1)
def gst (a : Ab) (k : Nat) : Nat := (fo (fun p (z : Nat × Nat) => (if ff (gc a p z.1) (a 0 4) 0 = 0 then z.1 else ins z.1 (ff (gc a p z.1) (a 0 4) 0 - 1), ff (gc a p z.1) (a 0 4) 0)) (k + 1) 0 (a 4 3, 0)).2
def sp_match (a : Ab) (x : Int32) : Int32 := if x = fI 0 then nI (ls a (a 0 4) 0 (a 4 3)) else if isR (a 0 4) x then fI (gst a (dn x)) else -1000000001
theorem mGo43 {a : Ab} {σ : Sg} (h : RelM a σ) (g : Gb a) {L : Nat → Int32} (hL : ∀ p', p' ≤ a 0 4 → ∀ s, s < 2 ^ a 0 4 → L (128 * p' + s) = nI (ls a (a 0 4 - p') p' s)) {p s : Nat} (hp : p < a 0 4) (hs : s < 2 ^ a 0 4) (x1 : Int32) (kx : Sg → Int32 → Int32 → Int32 → Int32 → Option (Int32 × Sg)) : ∀ (k fu : Nat) (t : Int32), k ≤ a 0 4 → k < fu → ∃ u, fX12_goerFor_43 fu kx (ms σ L t) x1 (nI s) (fI (ff (gc a p s) (a 0 4 - k) k)) (nI p) (nI (ls a (a 0 4 - p) p s)) (fI k) = kx (ms σ L u) x1 (nI s) (fI (ff (gc a p s) (a 0 4) 0)) (nI p) := by
  have hP := gb_P g
  have h128 := two_pow hP
  have hf := wc_fate (gb_w g) hp
  intro k
  induction k with
  | zero =>
    intro fu t h1 h2
    cases fu with
    | zero => omega
    | succ fu =>
      refine ⟨t, ?_⟩
      rw [fX12_goerFor_43_s]
      unfold fX12_goerFor_43b
      rw [if_pos (show fI 0 < 0 by decide), Nat.sub_zero]
  | succ k ih =>
    intro fu t h1 h2
    cases fu with
    | zero => omega
    | succ fu =>
      have h3 := (ms_sm σ L t).rel h
      have hk : k < a 0 4 := by omega
      have hl1 := ls_le g (a 0 4 - p) p s (by omega)
      rw [fX12_goerFor_43_s, fI_s]
      unfold fX12_goerFor_43b
      rw [if_neg (show ¬ nI k < 0 from nI_pos (by omega))]
      simp (disch := omega) only [lt_eq, bi_some, bv_some, ↓lim1, pk_m1f, fI_add1, li0, li1, li2, li3, li4, li5, li6, li7, li8, li9, li10, li12, li15, li16, li19, li20, li26, li30, li31, li32, li48, li57, li59, li60, li64, li99, li100, li128, li240, li255, li480, li999, li1000, li9000, li9999, liF, nI_add, sb_nI, pk_mul, dv_nI, cl_nI, inbT, le_nI, lt_nI, eq_nI, fI_le, fI_eq, st_ne, st_at, iT, iF, Nat.zero_add, Nat.add_zero, not_true_eq_false, not_false_eq_true, true_and, and_true, false_and, and_false, or_true, true_or, or_false, false_or, Nat.reduceEqDiff, Nat.reduceLeDiff, Nat.reduceLT, Nat.reduceAdd, Nat.reduceSub, Nat.reduceMul, Nat.reduceDiv, Nat.reduceMod, ↓reduceIte, rm_w h3, has_spec (ms σ L t) (show s < 128 by omega) (show k < 7 by omega)]
      by_cases z : 0 < a 4 (12 + p)
      · simp (disch := omega) only [lt_eq, bi_some, bv_some, ↓lim1, pk_m1f, fI_add1, li0, li1, li2, li3, li4, li5, li6, li7, li8, li9, li10, li12, li15, li16, li19, li20, li26, li30, li31, li32, li48, li57, li59, li60, li64, li99, li100, li128, li240, li255, li480, li999, li1000, li9000, li9999, liF, nI_add, sb_nI, pk_mul, dv_nI, cl_nI, inbT, le_nI, lt_nI, eq_nI, fI_le, fI_eq, st_ne, st_at, iT, iF, Nat.zero_add, Nat.add_zero, not_true_eq_false, not_false_eq_true, true_and, and_true, false_and, and_false, or_true, true_or, or_false, false_or, Nat.reduceEqDiff, Nat.reduceLeDiff, Nat.reduceLT, Nat.reduceAdd, Nat.reduceSub, Nat.reduceMul, Nat.reduceDiv, Nat.reduceMod, ↓reduceIte, show ¬ a 4 (12 + p) ≤ 0 by omega]
        have en : nI k + fI 0 = fI k := by
          cases k with
          | zero => decide
          | succ k => rw [pk_m1f, fI_s]
        have stepff : ff (gc a p s) (a 0 4 - k) k = if gc a p s k = true then k + 1 else ff (gc a p s) (a 0 4 - (k + 1)) (k + 1) := by
          rw [show a 0 4 - k = (a 0 4 - (k + 1)) + 1 by omega, ff]
        rcases bt_01 s k with y | y
        · obtain ⟨u, el⟩ := mLeft h g L t hp hk
          have hins := ins_pow hs hk hP
          have hle := lf_le g (q := k) hp
          have hl2 := ls_le g (a 0 4 - (p + 1)) (p + 1) (ins s k) (by omega)
          have eL := hL (p + 1) (by omega) (ins s k) hins
          have eins := ins_nI (s := s) (k := k) (by omega) (by omega)
          rw [li31, li1] at eins
          simp (disch := omega) only [lt_eq, bi_some, bv_some, ↓lim1, pk_m1f, fI_add1, li0, li1, li2, li3, li4, li5, li6, li7, li8, li9, li10, li12, li15, li16, li19, li20, li26, li30, li31, li32, li48, li57, li59, li60, li64, li99, li100, li128, li240, li255, li480, li999, li1000, li9000, li9999, liF, nI_add, sb_nI, pk_mul, dv_nI, cl_nI, inbT, le_nI, lt_nI, eq_nI, fI_le, fI_eq, st_ne, st_at, iT, iF, Nat.zero_add, Nat.add_zero, not_true_eq_false, not_false_eq_true, true_and, and_true, false_and, and_false, or_true, true_or, or_false, false_or, Nat.reduceEqDiff, Nat.reduceLeDiff, Nat.reduceLT, Nat.reduceAdd, Nat.reduceSub, Nat.reduceMul, Nat.reduceDiv, Nat.reduceMod, ↓reduceIte, y, el, eins, ms_143, eL]
          unfold fX12_goerFor_107
          simp (disch := omega) only [lt_eq, bi_some, bv_some, ↓lim1, pk_m1f, fI_add1, li0, li1, li2, li3, li4, li5, li6, li7, li8, li9, li10, li12, li15, li16, li19, li20, li26, li30, li31, li32, li48, li57, li59, li60, li64, li99, li100, li128, li240, li255, li480, li999, li1000, li9000, li9999, liF, nI_add, sb_nI, pk_mul, dv_nI, cl_nI, inbT, le_nI, lt_nI, eq_nI, fI_le, fI_eq, st_ne, st_at, iT, iF, Nat.zero_add, Nat.add_zero, not_true_eq_false, not_false_eq_true, true_and, and_true, false_and, and_false, or_true, true_or, or_false, false_or, Nat.reduceEqDiff, Nat.reduceLeDiff, Nat.reduceLT, Nat.reduceAdd, Nat.reduceSub, Nat.reduceMul, Nat.reduceDiv, Nat.reduceMod, ↓reduceIte, en]
          by_cases w : lf a p k + ls a (a 0 4 - (p + 1)) (p + 1) (ins s k) = ls a (a 0 4 - p) p s
          · rw [if_pos w]
            have e1 : ff (gc a p s) (a 0 4 - k) k = k + 1 := by
              have : gc a p s k = true := by
                unfold gc
                rw [decide_eq_true_iff]
                exact ⟨z, y, w⟩
              rw [stepff, if_pos this]
            have := ih fu u (by omega) (by omega)
            rw [e1, fI_s] at this
            exact this
          · rw [if_neg w]
            have e1 : ff (gc a p s) (a 0 4 - k) k = ff (gc a p s) (a 0 4 - (k + 1)) (k + 1) := by
              rw [stepff, if_neg (by unfold gc; rw [decide_eq_true_iff]; exact fun c => w c.2.2)]
            have := ih fu u (by omega) (by omega)
            rw [e1] at this
            exact this
        · unfold fX12_goerFor_107
          simp (disch := omega) only [lt_eq, bi_some, bv_some, ↓lim1, pk_m1f, fI_add1, li0, li1, li2, li3, li4, li5, li6, li7, li8, li9, li10, li12, li15, li16, li19, li20, li26, li30, li31, li32, li48, li57, li59, li60, li64, li99, li100, li128, li240, li255, li480, li999, li1000, li9000, li9999, liF, nI_add, sb_nI, pk_mul, dv_nI, cl_nI, inbT, le_nI, lt_nI, eq_nI, fI_le, fI_eq, st_ne, st_at, iT, iF, Nat.zero_add, Nat.add_zero, not_true_eq_false, not_false_eq_true, true_and, and_true, false_and, and_false, or_true, true_or, or_false, false_or, Nat.reduceEqDiff, Nat.reduceLeDiff, Nat.reduceLT, Nat.reduceAdd, Nat.reduceSub, Nat.reduceMul, Nat.reduceDiv, Nat.reduceMod, ↓reduceIte, y, en]
          have e1 : ff (gc a p s) (a 0 4 - k) k = ff (gc a p s) (a 0 4 - (k + 1)) (k + 1) := by
            rw [stepff, if_neg (by unfold gc; rw [decide_eq_true_iff]; exact fun c => by omega)]
          have := ih fu t (by omega) (by omega)
          rw [e1] at this
          exact this
      · simp (disch := omega) only [lt_eq, bi_some, bv_some, ↓lim1, pk_m1f, fI_add1, li0, li1, li2, li3, li4, li5, li6, li7, li8, li9, li10, li12, li15, li16, li19, li20, li26, li30, li31, li32, li48, li57, li59, li60, li64, li99, li100, li128, li240, li255, li480, li999, li1000, li9000, li9999, liF, nI_add, sb_nI, pk_mul, dv_nI, cl_nI, inbT, le_nI, lt_nI, eq_nI, fI_le, fI_eq, st_ne, st_at, iT, iF, Nat.zero_add, Nat.add_zero, not_true_eq_false, not_false_eq_true, true_and, and_true, false_and, and_false, or_true, true_or, or_false, false_or, Nat.reduceEqDiff, Nat.reduceLeDiff, Nat.reduceLT, Nat.reduceAdd, Nat.reduceSub, Nat.reduceMul, Nat.reduceDiv, Nat.reduceMod, ↓reduceIte, show a 4 (12 + p) ≤ 0 by omega]
        have e0 : ∀ q, gc a p s q = false := fun q => by
          unfold gc
          rw [decide_eq_false_iff_not]
          exact fun c => z c.1
        rw [ff_none e0, ff_none e0]
        exact ⟨t, rfl⟩
theorem mGo {a : Ab} {σ : Sg} (h : RelM a σ) (g : Gb a) {L : Nat → Int32} (hL : ∀ p', p' ≤ a 0 4 → ∀ s, s < 2 ^ a 0 4 → L (128 * p' + s) = nI (ls a (a 0 4 - p') p' s)) {k : Nat} (hk : k < a 0 4) : ∀ (d i fu : Nat) (z : Nat × Nat) (t : Int32), i + d = k + 1 → d < fu → z.1 < 2 ^ a 0 4 → ∃ u, fX12_goerFor_12 fu (fun σ_22 x3_22 => some (x3_22, σ_22)) (ms σ L t) (nI k) (nI z.1) (fI z.2) (nI i) = some (fI (fo (fun p (z : Nat × Nat) => (if ff (gc a p z.1) (a 0 4) 0 = 0 then z.1 else ins z.1 (ff (gc a p z.1) (a 0 4) 0 - 1), ff (gc a p z.1) (a 0 4) 0)) d i z).2, ms σ L u) := by
  have hP := gb_P g
  have h128 := two_pow hP
  intro d
  induction d with
  | zero =>
    intro i fu z t h1 h2 hz
    cases fu with
    | zero => omega
    | succ fu =>
      refine ⟨t, ?_⟩
      rw [fX12_goerFor_12_s]
      unfold fX12_goerFor_12b fo
      simp (disch := omega) only [lt_eq, bi_some, bv_some, ↓lim1, pk_m1f, fI_add1, li0, li1, li2, li3, li4, li5, li6, li7, li8, li9, li10, li12, li15, li16, li19, li20, li26, li30, li31, li32, li48, li57, li59, li60, li64, li99, li100, li128, li240, li255, li480, li999, li1000, li9000, li9999, liF, nI_add, sb_nI, pk_mul, dv_nI, cl_nI, inbT, le_nI, lt_nI, eq_nI, fI_le, fI_eq, st_ne, st_at, iT, iF, Nat.zero_add, Nat.add_zero, not_true_eq_false, not_false_eq_true, true_and, and_true, false_and, and_false, or_true, true_or, or_false, false_or, Nat.reduceEqDiff, Nat.reduceLeDiff, Nat.reduceLT, Nat.reduceAdd, Nat.reduceSub, Nat.reduceMul, Nat.reduceDiv, Nat.reduceMod, ↓reduceIte, show k < i by omega]
  | succ d ih =>
    intro i fu z t h1 h2 hz
    cases fu with
    | zero => omega
    | succ fu =>
      have h3 := (ms_sm σ L t).rel h
      have eL := hL i (by omega) z.1 hz
      have en : nI (a 0 4) - nI 1 = fI (a 0 4) := by
        cases a 0 4 with
        | zero => decide
        | succ p => rw [sb_nI (by omega), Nat.add_sub_cancel, fI_s]
      obtain ⟨u, e43⟩ := mGo43 h g hL (p := i) (s := z.1) (by omega) hz (nI k) (fun σ_18 x1_18 x2_18 x3_18 x4_18 => fX12_goerFor_113 (fX12_goerFor_12 fu (fun σ_22 x3_22 => some (x3_22, σ_22))) (fun σ_22 x3_22 => some (x3_22, σ_22)) σ_18 x1_18 x2_18 x3_18 x4_18) (a 0 4) FU t (Nat.le_refl _) (by have := FU_ge; omega)
      rw [Nat.sub_self, ff] at e43
      have hfl := ff_le (gc a i z.1) (a 0 4) 0
      rw [fX12_goerFor_12_s, fo]
      unfold fX12_goerFor_12b
      have eP := rm_P h3
      simp (disch := omega) only [lt_eq, ↓lim1, li1, li128, le_nI, lt_nI, pk_mul, nI_add, inbT, cl_nI, iT, iF, show ¬ k < i by omega, ms_143, eL, eP, en, e43, ↓reduceIte]
      generalize hF : ff (gc a i z.1) (a 0 4) 0 = F at hfl ⊢
      unfold fX12_goerFor_113 fX12_goerFor_126
      by_cases y : F = 0
      · subst y
        simp (disch := omega) only [lt_eq, bi_some, bv_some, ↓lim1, pk_m1f, fI_add1, li0, li1, li2, li3, li4, li5, li6, li7, li8, li9, li10, li12, li15, li16, li19, li20, li26, li30, li31, li32, li48, li57, li59, li60, li64, li99, li100, li128, li240, li255, li480, li999, li1000, li9000, li9999, liF, nI_add, sb_nI, pk_mul, dv_nI, cl_nI, inbT, le_nI, lt_nI, eq_nI, fI_le, fI_eq, st_ne, st_at, iT, iF, Nat.zero_add, Nat.add_zero, not_true_eq_false, not_false_eq_true, true_and, and_true, false_and, and_false, or_true, true_or, or_false, false_or, Nat.reduceEqDiff, Nat.reduceLeDiff, Nat.reduceLT, Nat.reduceAdd, Nat.reduceSub, Nat.reduceMul, Nat.reduceDiv, Nat.reduceMod, ↓reduceIte, or_nI0]
        exact ih (i + 1) fu (z.1, 0) u (by omega) (by omega) hz
      · have hFp : F - 1 < a 0 4 := by omega
        have eins := ins_nI (s := z.1) (k := F - 1) (by omega) (by omega)
        rw [li31, li1] at eins
        simp (disch := omega) only [lt_eq, bi_some, bv_some, ↓lim1, pk_m1f, fI_add1, li0, li1, li2, li3, li4, li5, li6, li7, li8, li9, li10, li12, li15, li16, li19, li20, li26, li30, li31, li32, li48, li57, li59, li60, li64, li99, li100, li128, li240, li255, li480, li999, li1000, li9000, li9999, liF, nI_add, sb_nI, pk_mul, dv_nI, cl_nI, inbT, le_nI, lt_nI, eq_nI, fI_le, fI_eq, st_ne, st_at, iT, iF, Nat.zero_add, Nat.add_zero, not_true_eq_false, not_false_eq_true, true_and, and_true, false_and, and_false, or_true, true_or, or_false, false_or, Nat.reduceEqDiff, Nat.reduceLeDiff, Nat.reduceLT, Nat.reduceAdd, Nat.reduceSub, Nat.reduceMul, Nat.reduceDiv, Nat.reduceMod, ↓reduceIte, y]
        rw [fI_p y, eins]
        have := ih (i + 1) fu (ins z.1 (F - 1), F) u (by omega) (by omega) (ins_pow hz hFp hP)
        rw [show fI (ins z.1 (F - 1), F).2 = nI (F - 1) from fI_p y] at this
        exact this
theorem M_match {a : Ab} {σ : Sg} (h : RelM a σ) (g : Gb a) (x : Int32) : OkM σ (fX12_match σ x) (sp_match a x, a) := by
  have hP := gb_P g
  have h128 := two_pow hP
  have hw3 := (gb_w g).1.2.2.2.2.1
  obtain ⟨L, u, e, hL⟩ := mLay h g
  have h3 := (ms_sm σ L u).rel h
  have e16 : fX12_match_16 σ x = (if x = (-1) then some (nI (ls a (a 0 4) 0 (a 4 3)), ms σ L u) else bi (fX12_goerFor (ms σ L u) x) (fun r_4 σ_4 => some (r_4, σ_4))) := by
    unfold fX12_match_16
    rw [e, bv_some]
    have eL := hL 0 (by omega) (a 4 3) hw3
    rw [Nat.mul_zero, Nat.zero_add, Nat.sub_zero] at eL
    by_cases q : x = (-1)
    · rw [if_pos q, if_pos q]
      simp (disch := omega) only [lt_eq, bi_some, bv_some, ↓lim1, pk_m1f, fI_add1, li0, li1, li2, li3, li4, li5, li6, li7, li8, li9, li10, li12, li15, li16, li19, li20, li26, li30, li31, li32, li48, li57, li59, li60, li64, li99, li100, li128, li240, li255, li480, li999, li1000, li9000, li9999, liF, nI_add, sb_nI, pk_mul, dv_nI, cl_nI, inbT, le_nI, lt_nI, eq_nI, fI_le, fI_eq, st_ne, st_at, iT, iF, Nat.zero_add, Nat.add_zero, not_true_eq_false, not_false_eq_true, true_and, and_true, false_and, and_false, or_true, true_or, or_false, false_or, Nat.reduceEqDiff, Nat.reduceLeDiff, Nat.reduceLT, Nat.reduceAdd, Nat.reduceSub, Nat.reduceMul, Nat.reduceDiv, Nat.reduceMod, ↓reduceIte, rm_w h3, ms_143, eL]
    · rw [if_neg q, if_neg q]
  unfold fX12_match sp_match
  by_cases q : x = (-1)
  · rw [if_pos q, if_pos (show x = fI 0 from q), e16, if_pos q]
    exact OkM.sm h rfl (ms_sm σ L u)
  · rw [if_neg q, if_neg (show ¬ x = fI 0 from q), mPers h g, bi_some]
    by_cases z : isR (a 0 4) x
    · rw [if_pos z, if_pos z, if_neg (by decide), e16, if_neg q]
      obtain ⟨k, hk, rfl⟩ := ix_of (by omega) z
      rw [dn_n (by omega)]
      obtain ⟨v, eg⟩ := mGo h g hL hk (k + 1) 0 FU (a 4 3, 0) u (by omega) (by have := FU_ge; omega) hw3
      have : fX12_goerFor (ms σ L u) (nI k) = some (fI (gst a k), ms σ L v) := by
        unfold fX12_goerFor gst
        simp (disch := omega) only [lt_eq, bi_some, bv_some, ↓lim1, pk_m1f, fI_add1, li0, li1, li2, li3, li4, li5, li6, li7, li8, li9, li10, li12, li15, li16, li19, li20, li26, li30, li31, li32, li48, li57, li59, li60, li64, li99, li100, li128, li240, li255, li480, li999, li1000, li9000, li9999, liF, nI_add, sb_nI, pk_mul, dv_nI, cl_nI, inbT, le_nI, lt_nI, eq_nI, fI_le, fI_eq, st_ne, st_at, iT, iF, Nat.zero_add, Nat.add_zero, not_true_eq_false, not_false_eq_true, true_and, and_true, false_and, and_false, or_true, true_or, or_false, false_or, Nat.reduceEqDiff, Nat.reduceLeDiff, Nat.reduceLT, Nat.reduceAdd, Nat.reduceSub, Nat.reduceMul, Nat.reduceDiv, Nat.reduceMod, ↓reduceIte, rm_w h3]
        exact eg
      rw [this, bi_some]
      exact OkM.sm h rfl (ms_sm σ L v)
    · rw [if_neg z, if_neg z, if_pos (by decide)]
      exact OkM.same h rfl
