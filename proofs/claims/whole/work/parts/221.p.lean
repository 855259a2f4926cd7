/-! the reference: who goes up for whom -/
/-- what is left of p's fate if q goes up -/
def lf (a : Ab) (p q : Nat) : Nat := (brg a q (a 4 (12 + p))).1
/-- one more who may go up for p, R being what is left behind p -/
def lsS (a : Ab) (R : Nat → Nat) (p s : Nat) : Nat → Nat → Nat := fun q its => if 0 < a 4 (12 + p) ∧ bt s q = 0 then (if its ≤ lf a p q + R (ins s q) then its else lf a p q + R (ins s q)) else its
/-- the least that is left of p and those behind it, d of them, s being spent -/
def ls (a : Ab) : Nat → Nat → Nat → Nat
  | 0, _, _ => 0
  | d + 1, p, s => fo (lsS a (ls a d (p + 1)) p s) (a 0 4) 0 (a 4 (12 + p) + ls a d (p + 1) s)
theorem ls_le {a : Ab} (g : Gb a) : ∀ d p s, p + d = a 0 4 → ls a d p s ≤ 99 * d := by
  intro d
  induction d with
  | zero => intro p s _; exact Nat.le_refl _
  | succ d ih =>
    intro p s h
    have hf := wc_fate (gb_w g) (show p < a 0 4 by omega)
    have h0 := ih (p + 1) s (by omega)
    unfold ls
    have := fo_inv (fun i its => its ≤ 99 * (d + 1)) (f := lsS a (ls a d (p + 1)) p s) (a 0 4) 0 (a 4 (12 + p) + ls a d (p + 1) s) (by omega) (by
      intro j its h1 h2 h3
      show lsS a (ls a d (p + 1)) p s j its ≤ 99 * (d + 1)
      unfold lsS
      split
      · split <;> omega
      · exact h3)
    exact this
/-- the reference's rows while it matches -/
def ms (σ : Sg) (L : Nat → Int32) (t : Int32) : Sg := st (sr σ 144 L) 132 23 t
theorem ms_sm (σ : Sg) (L : Nat → Int32) (t : Int32) : Sm σ (ms σ L t) := fun n k h => by
  unfold ms
  rw [st_eq]
  by_cases q : n = 132 ∧ k = 23
  · rw [q.1, q.2] at h; cases h
  · rw [if_neg q]
    by_cases z : n = 144
    · rw [z] at h; cases h
    · rw [sr_ne z]
theorem ms_143 (σ : Sg) (L : Nat → Int32) (t : Int32) : ms σ L t 144 = L := by
  unfold ms
  rw [st_ne (by omega), sr_at]
theorem ms_turn (σ : Sg) (L : Nat → Int32) (t u : Int32) : st (ms σ L t) 132 23 u = ms σ L u := st_st _ _ _ _ _
theorem ms_st (σ : Sg) (L : Nat → Int32) (t : Int32) (k : Nat) (v : Int32) : st (ms σ L t) 144 k v = ms σ (upd L k v) t := by
  funext m j
  unfold ms sr
  rw [st_eq, st_eq, st_eq]
  unfold va_up upd
  by_cases q : m = 144 ∧ j = k
  · rw [if_pos q, if_neg (by omega), if_pos q.1, if_pos q.2]
  · rw [if_neg q]
    by_cases z : m = 132 ∧ j = 23
    · rw [if_pos z, if_pos z]
    · rw [if_neg z, if_neg z]
      by_cases y : m = 144
      · rw [if_pos y, if_pos y, if_neg (fun w => q ⟨y, w⟩)]
      · rw [if_neg y, if_neg y]
theorem ms_self (σ : Sg) : ms σ (σ 144) (σ 132 23) = σ := by
  unfold ms
  have : sr σ 144 (σ 144) = σ := by
    funext m
    by_cases q : m = 144
    · rw [q, sr_at]
    · rw [sr_ne q]
  rw [this, st_self rfl]
theorem mLeft {a : Ab} {σ : Sg} (h : RelM a σ) (g : Gb a) (L : Nat → Int32) (t : Int32) {p q : Nat} (hp : p < a 0 4) (hq : q < a 0 4) : ∃ u, fX12_leftBy (ms σ L t) (nI p) (nI q) = some (nI (lf a p q), ms σ L u) := by
  have hP := gb_P g
  have h2 := (ms_sm σ L t).rel h
  have hf := wc_fate (gb_w g) hp
  refine ⟨nI (brg a q (a 4 (12 + p))).2, ?_⟩
  unfold fX12_leftBy lf
  simp (disch := omega) only [lt_eq, bi_some, bv_some, ↓lim1, pk_m1f, fI_add1, li0, li1, li2, li3, li4, li5, li6, li7, li8, li9, li10, li12, li15, li16, li19, li20, li26, li30, li31, li32, li48, li57, li59, li60, li64, li99, li100, li128, li240, li255, li480, li999, li1000, li9000, li9999, liF, nI_add, sb_nI, pk_mul, dv_nI, cl_nI, inbT, le_nI, lt_nI, eq_nI, fI_le, fI_eq, st_ne, st_at, iT, iF, Nat.zero_add, Nat.add_zero, not_true_eq_false, not_false_eq_true, true_and, and_true, false_and, and_false, or_true, true_or, or_false, false_or, Nat.reduceEqDiff, Nat.reduceLeDiff, Nat.reduceLT, Nat.reduceAdd, Nat.reduceSub, Nat.reduceMul, Nat.reduceDiv, Nat.reduceMod, ↓reduceIte, rm_w h2, barg_spec h2 g hq hf, ms_turn]
theorem lf_le {a : Ab} (g : Gb a) {p q : Nat} (hp : p < a 0 4) : lf a p q ≤ 99 := (brg_le g (wc_fate (gb_w g) hp)).1
/-- the layers behind p are laid, and c places of p's -/
def LD (a : Ab) (L : Nat → Int32) (p c : Nat) : Prop := (∀ p', p < p' → p' ≤ a 0 4 → ∀ s, s < 2 ^ a 0 4 → L (128 * p' + s) = nI (ls a (a 0 4 - p') p' s)) ∧ ∀ s, s < c → L (128 * p + s) = nI (ls a (a 0 4 - p) p s)
theorem pow_le7 {P : Nat} (h : P ≤ 7) : 2 ^ P ≤ 128 := two_pow h
theorem mLay83 {a : Ab} {σ : Sg} (h : RelM a σ) (g : Gb a) (L : Nat → Int32) {p s c d : Nat} (hd : p + (d + 1) = a 0 4) (hs : s < 2 ^ a 0 4) (hL : LD a L p c) (x1 : Int32) (kx : Sg → Int32 → Int32 → Int32 → Int32 → Option Sg) : ∀ (e i n fu : Nat) (t : Int32), i + e = a 0 4 → e < fu → n ≤ 1000 → ∃ u, fX12_layLeast_83 fu kx (ms σ L t) x1 (nI p) (nI s) (nI n) (nI i) = kx (ms σ L u) x1 (nI p) (nI s) (nI (fo (lsS a (ls a d (p + 1)) p s) e i n)) := by
  have hP := gb_P g
  have h128 := two_pow hP
  have hp : p < a 0 4 := by omega
  have hf := wc_fate (gb_w g) hp
  intro e
  induction e with
  | zero =>
    intro i n fu t h1 h2 hn
    cases fu with
    | zero => omega
    | succ fu =>
      have h3 := (ms_sm σ L t).rel h
      refine ⟨t, ?_⟩
      rw [fX12_layLeast_83_s]
      unfold fX12_layLeast_83b fo
      simp (disch := omega) only [lt_eq, bi_some, bv_some, ↓lim1, pk_m1f, fI_add1, li0, li1, li2, li3, li4, li5, li6, li7, li8, li9, li10, li12, li15, li16, li19, li20, li26, li30, li31, li32, li48, li57, li59, li60, li64, li99, li100, li128, li240, li255, li480, li999, li1000, li9000, li9999, liF, nI_add, sb_nI, pk_mul, dv_nI, cl_nI, inbT, le_nI, lt_nI, eq_nI, fI_le, fI_eq, st_ne, st_at, iT, iF, Nat.zero_add, Nat.add_zero, not_true_eq_false, not_false_eq_true, true_and, and_true, false_and, and_false, or_true, true_or, or_false, false_or, Nat.reduceEqDiff, Nat.reduceLeDiff, Nat.reduceLT, Nat.reduceAdd, Nat.reduceSub, Nat.reduceMul, Nat.reduceDiv, Nat.reduceMod, ↓reduceIte, rm_P h3, show a 0 4 ≤ i by omega]
  | succ e ih =>
    intro i n fu t h1 h2 hn
    cases fu with
    | zero => omega
    | succ fu =>
      have h3 := (ms_sm σ L t).rel h
      have hi : i < a 0 4 := by omega
      rw [fX12_layLeast_83_s]
      unfold fX12_layLeast_83b
      rw [fo]
      simp (disch := omega) only [lt_eq, bi_some, bv_some, ↓lim1, pk_m1f, fI_add1, li0, li1, li2, li3, li4, li5, li6, li7, li8, li9, li10, li12, li15, li16, li19, li20, li26, li30, li31, li32, li48, li57, li59, li60, li64, li99, li100, li128, li240, li255, li480, li999, li1000, li9000, li9999, liF, nI_add, sb_nI, pk_mul, dv_nI, cl_nI, inbT, le_nI, lt_nI, eq_nI, fI_le, fI_eq, st_ne, st_at, iT, iF, Nat.zero_add, Nat.add_zero, not_true_eq_false, not_false_eq_true, true_and, and_true, false_and, and_false, or_true, true_or, or_false, false_or, Nat.reduceEqDiff, Nat.reduceLeDiff, Nat.reduceLT, Nat.reduceAdd, Nat.reduceSub, Nat.reduceMul, Nat.reduceDiv, Nat.reduceMod, ↓reduceIte, rm_P h3, show ¬ a 0 4 ≤ i by omega, rm_w h3, has_spec (ms σ L t) (show s < 128 by omega) (show i < 7 by omega)]
      by_cases z : 0 < a 4 (12 + p)
      · simp (disch := omega) only [lt_eq, bi_some, bv_some, ↓lim1, pk_m1f, fI_add1, li0, li1, li2, li3, li4, li5, li6, li7, li8, li9, li10, li12, li15, li16, li19, li20, li26, li30, li31, li32, li48, li57, li59, li60, li64, li99, li100, li128, li240, li255, li480, li999, li1000, li9000, li9999, liF, nI_add, sb_nI, pk_mul, dv_nI, cl_nI, inbT, le_nI, lt_nI, eq_nI, fI_le, fI_eq, st_ne, st_at, iT, iF, Nat.zero_add, Nat.add_zero, not_true_eq_false, not_false_eq_true, true_and, and_true, false_and, and_false, or_true, true_or, or_false, false_or, Nat.reduceEqDiff, Nat.reduceLeDiff, Nat.reduceLT, Nat.reduceAdd, Nat.reduceSub, Nat.reduceMul, Nat.reduceDiv, Nat.reduceMod, ↓reduceIte, show ¬ a 4 (12 + p) ≤ 0 by omega, z]
        rcases bt_01 s i with y | y
        · obtain ⟨u, el⟩ := mLeft h g L t hp hi
          have hins := ins_pow hs hi hP
          have hle := lf_le g (q := i) hp
          have hl2 := ls_le g d (p + 1) (ins s i) (by omega)
          have eL := hL.1 (p + 1) (by omega) (by omega) (ins s i) hins
          rw [show a 0 4 - (p + 1) = d by omega] at eL
          have eins := ins_nI (s := s) (k := i) (by omega) (by omega)
          rw [li31, li1] at eins
          simp (disch := omega) only [lt_eq, bi_some, bv_some, ↓lim1, pk_m1f, fI_add1, li0, li1, li2, li3, li4, li5, li6, li7, li8, li9, li10, li12, li15, li16, li19, li20, li26, li30, li31, li32, li48, li57, li59, li60, li64, li99, li100, li128, li240, li255, li480, li999, li1000, li9000, li9999, liF, nI_add, sb_nI, pk_mul, dv_nI, cl_nI, inbT, le_nI, lt_nI, eq_nI, fI_le, fI_eq, st_ne, st_at, iT, iF, Nat.zero_add, Nat.add_zero, not_true_eq_false, not_false_eq_true, true_and, and_true, false_and, and_false, or_true, true_or, or_false, false_or, Nat.reduceEqDiff, Nat.reduceLeDiff, Nat.reduceLT, Nat.reduceAdd, Nat.reduceSub, Nat.reduceMul, Nat.reduceDiv, Nat.reduceMod, ↓reduceIte, y, el, eins, ms_143, eL]
          unfold fX12_layLeast_156 fX12_layLeast_158
          simp (disch := omega) only [lt_eq, bi_some, bv_some, ↓lim1, pk_m1f, fI_add1, li0, li1, li2, li3, li4, li5, li6, li7, li8, li9, li10, li12, li15, li16, li19, li20, li26, li30, li31, li32, li48, li57, li59, li60, li64, li99, li100, li128, li240, li255, li480, li999, li1000, li9000, li9999, liF, nI_add, sb_nI, pk_mul, dv_nI, cl_nI, inbT, le_nI, lt_nI, eq_nI, fI_le, fI_eq, st_ne, st_at, iT, iF, Nat.zero_add, Nat.add_zero, not_true_eq_false, not_false_eq_true, true_and, and_true, false_and, and_false, or_true, true_or, or_false, false_or, Nat.reduceEqDiff, Nat.reduceLeDiff, Nat.reduceLT, Nat.reduceAdd, Nat.reduceSub, Nat.reduceMul, Nat.reduceDiv, Nat.reduceMod, ↓reduceIte]
          by_cases w : n ≤ lf a p i + ls a d (p + 1) (ins s i)
          · have eS : lsS a (ls a d (p + 1)) p s i n = n := by
              unfold lsS
              rw [if_pos ⟨z, y⟩, if_pos w]
            simp (disch := omega) only [lt_eq, bi_some, bv_some, ↓lim1, pk_m1f, fI_add1, li0, li1, li2, li3, li4, li5, li6, li7, li8, li9, li10, li12, li15, li16, li19, li20, li26, li30, li31, li32, li48, li57, li59, li60, li64, li99, li100, li128, li240, li255, li480, li999, li1000, li9000, li9999, liF, nI_add, sb_nI, pk_mul, dv_nI, cl_nI, inbT, le_nI, lt_nI, eq_nI, fI_le, fI_eq, st_ne, st_at, iT, iF, Nat.zero_add, Nat.add_zero, not_true_eq_false, not_false_eq_true, true_and, and_true, false_and, and_false, or_true, true_or, or_false, false_or, Nat.reduceEqDiff, Nat.reduceLeDiff, Nat.reduceLT, Nat.reduceAdd, Nat.reduceSub, Nat.reduceMul, Nat.reduceDiv, Nat.reduceMod, ↓reduceIte, w, eS]
            exact ih (i + 1) n fu u (by omega) (by omega) hn
          · have eS : lsS a (ls a d (p + 1)) p s i n = lf a p i + ls a d (p + 1) (ins s i) := by
              unfold lsS
              rw [if_pos ⟨z, y⟩, if_neg w]
            simp (disch := omega) only [lt_eq, bi_some, bv_some, ↓lim1, pk_m1f, fI_add1, li0, li1, li2, li3, li4, li5, li6, li7, li8, li9, li10, li12, li15, li16, li19, li20, li26, li30, li31, li32, li48, li57, li59, li60, li64, li99, li100, li128, li240, li255, li480, li999, li1000, li9000, li9999, liF, nI_add, sb_nI, pk_mul, dv_nI, cl_nI, inbT, le_nI, lt_nI, eq_nI, fI_le, fI_eq, st_ne, st_at, iT, iF, Nat.zero_add, Nat.add_zero, not_true_eq_false, not_false_eq_true, true_and, and_true, false_and, and_false, or_true, true_or, or_false, false_or, Nat.reduceEqDiff, Nat.reduceLeDiff, Nat.reduceLT, Nat.reduceAdd, Nat.reduceSub, Nat.reduceMul, Nat.reduceDiv, Nat.reduceMod, ↓reduceIte, w, eS]
            exact ih (i + 1) _ fu u (by omega) (by omega) (by omega)
        · have eS : lsS a (ls a d (p + 1)) p s i n = n := by
            unfold lsS
            rw [if_neg (by omega)]
          unfold fX12_layLeast_158
          simp (disch := omega) only [lt_eq, bi_some, bv_some, ↓lim1, pk_m1f, fI_add1, li0, li1, li2, li3, li4, li5, li6, li7, li8, li9, li10, li12, li15, li16, li19, li20, li26, li30, li31, li32, li48, li57, li59, li60, li64, li99, li100, li128, li240, li255, li480, li999, li1000, li9000, li9999, liF, nI_add, sb_nI, pk_mul, dv_nI, cl_nI, inbT, le_nI, lt_nI, eq_nI, fI_le, fI_eq, st_ne, st_at, iT, iF, Nat.zero_add, Nat.add_zero, not_true_eq_false, not_false_eq_true, true_and, and_true, false_and, and_false, or_true, true_or, or_false, false_or, Nat.reduceEqDiff, Nat.reduceLeDiff, Nat.reduceLT, Nat.reduceAdd, Nat.reduceSub, Nat.reduceMul, Nat.reduceDiv, Nat.reduceMod, ↓reduceIte, y, eS]
          exact ih (i + 1) n fu t (by omega) (by omega) hn
      · have e1 : ∀ q x, lsS a (ls a d (p + 1)) p s q x = x := fun q x => by
          unfold lsS
          rw [if_neg (fun w => z w.1)]
        have stay : ∀ e i, fo (lsS a (ls a d (p + 1)) p s) e i n = n := fun e i => fo_inv (fun _ its => its = n) (f := lsS a (ls a d (p + 1)) p s) e i n rfl (fun j x _ _ h3 => (e1 j x).trans h3)
        refine ⟨t, ?_⟩
        simp (disch := omega) only [lt_eq, bi_some, bv_some, ↓lim1, pk_m1f, fI_add1, li0, li1, li2, li3, li4, li5, li6, li7, li8, li9, li10, li12, li15, li16, li19, li20, li26, li30, li31, li32, li48, li57, li59, li60, li64, li99, li100, li128, li240, li255, li480, li999, li1000, li9000, li9999, liF, nI_add, sb_nI, pk_mul, dv_nI, cl_nI, inbT, le_nI, lt_nI, eq_nI, fI_le, fI_eq, st_ne, st_at, iT, iF, Nat.zero_add, Nat.add_zero, not_true_eq_false, not_false_eq_true, true_and, and_true, false_and, and_false, or_true, true_or, or_false, false_or, Nat.reduceEqDiff, Nat.reduceLeDiff, Nat.reduceLT, Nat.reduceAdd, Nat.reduceSub, Nat.reduceMul, Nat.reduceDiv, Nat.reduceMod, ↓reduceIte, show a 4 (12 + p) ≤ 0 by omega, e1, stay]
theorem mLay49 {a : Ab} {σ : Sg} (h : RelM a σ) (g : Gb a) {p d : Nat} (hd : p + (d + 1) = a 0 4) (kx : Sg → Int32 → Int32 → Option Sg) : ∀ (e s fu : Nat) (L : Nat → Int32) (t : Int32), s + e = 2 ^ a 0 4 → e < fu → LD a L p s → ∃ L' u, fX12_layLeast_49 fu kx (ms σ L t) (nI (2 ^ a 0 4)) (nI p) (nI s) = kx (ms σ L' u) (nI (2 ^ a 0 4)) (nI p) ∧ LD a L' p (2 ^ a 0 4) := by
  have hP := gb_P g
  have h128 := two_pow hP
  have hp : p < a 0 4 := by omega
  have hf := wc_fate (gb_w g) hp
  intro e
  induction e with
  | zero =>
    intro s fu L t h1 h2 hL
    cases fu with
    | zero => omega
    | succ fu =>
      refine ⟨L, t, ?_, by rw [← show s = 2 ^ a 0 4 by omega]; exact hL⟩
      rw [fX12_layLeast_49_s]
      unfold fX12_layLeast_49b
      simp (disch := omega) only [lt_eq, bi_some, bv_some, ↓lim1, pk_m1f, fI_add1, li0, li1, li2, li3, li4, li5, li6, li7, li8, li9, li10, li12, li15, li16, li19, li20, li26, li30, li31, li32, li48, li57, li59, li60, li64, li99, li100, li128, li240, li255, li480, li999, li1000, li9000, li9999, liF, nI_add, sb_nI, pk_mul, dv_nI, cl_nI, inbT, le_nI, lt_nI, eq_nI, fI_le, fI_eq, st_ne, st_at, iT, iF, Nat.zero_add, Nat.add_zero, not_true_eq_false, not_false_eq_true, true_and, and_true, false_and, and_false, or_true, true_or, or_false, false_or, Nat.reduceEqDiff, Nat.reduceLeDiff, Nat.reduceLT, Nat.reduceAdd, Nat.reduceSub, Nat.reduceMul, Nat.reduceDiv, Nat.reduceMod, ↓reduceIte, show 2 ^ a 0 4 ≤ s by omega]
  | succ e ih =>
    intro s fu L t h1 h2 hL
    cases fu with
    | zero => omega
    | succ fu =>
      have h3 := (ms_sm σ L t).rel h
      have hs : s < 2 ^ a 0 4 := by omega
      have eL := hL.1 (p + 1) (by omega) (by omega) s hs
      rw [show a 0 4 - (p + 1) = d by omega] at eL
      have hl2 := ls_le g d (p + 1) s (by omega)
      obtain ⟨u, e83⟩ := mLay83 h g L hd hs hL (nI (2 ^ a 0 4)) (fun σ_22 x1_22 x2_22 x3_22 x4_22 => fX12_layLeast_164 (fX12_layLeast_49 fu kx) kx σ_22 x1_22 x2_22 x3_22 x4_22) (a 0 4) 0 (a 4 (12 + p) + ls a d (p + 1) s) FU t (by omega) (by have := FU_ge; omega) (by omega)
      have els : fo (lsS a (ls a d (p + 1)) p s) (a 0 4) 0 (a 4 (12 + p) + ls a d (p + 1) s) = ls a (d + 1) p s := by rw [ls]
      rw [els] at e83
      have hl3 := ls_le g (d + 1) p s (by omega)
      rw [fX12_layLeast_49_s]
      unfold fX12_layLeast_49b
      simp (disch := omega) only [lt_eq, bi_some, bv_some, ↓lim1, pk_m1f, fI_add1, li0, li1, li2, li3, li4, li5, li6, li7, li8, li9, li10, li12, li15, li16, li19, li20, li26, li30, li31, li32, li48, li57, li59, li60, li64, li99, li100, li128, li240, li255, li480, li999, li1000, li9000, li9999, liF, nI_add, sb_nI, pk_mul, dv_nI, cl_nI, inbT, le_nI, lt_nI, eq_nI, fI_le, fI_eq, st_ne, st_at, iT, iF, Nat.zero_add, Nat.add_zero, not_true_eq_false, not_false_eq_true, true_and, and_true, false_and, and_false, or_true, true_or, or_false, false_or, Nat.reduceEqDiff, Nat.reduceLeDiff, Nat.reduceLT, Nat.reduceAdd, Nat.reduceSub, Nat.reduceMul, Nat.reduceDiv, Nat.reduceMod, ↓reduceIte, show ¬ 2 ^ a 0 4 ≤ s by omega, rm_w h3, ms_143, eL, e83]
      unfold fX12_layLeast_164
      simp (disch := omega) only [lt_eq, bi_some, bv_some, ↓lim1, pk_m1f, fI_add1, li0, li1, li2, li3, li4, li5, li6, li7, li8, li9, li10, li12, li15, li16, li19, li20, li26, li30, li31, li32, li48, li57, li59, li60, li64, li99, li100, li128, li240, li255, li480, li999, li1000, li9000, li9999, liF, nI_add, sb_nI, pk_mul, dv_nI, cl_nI, inbT, le_nI, lt_nI, eq_nI, fI_le, fI_eq, st_ne, st_at, iT, iF, Nat.zero_add, Nat.add_zero, not_true_eq_false, not_false_eq_true, true_and, and_true, false_and, and_false, or_true, true_or, or_false, false_or, Nat.reduceEqDiff, Nat.reduceLeDiff, Nat.reduceLT, Nat.reduceAdd, Nat.reduceSub, Nat.reduceMul, Nat.reduceDiv, Nat.reduceMod, ↓reduceIte, ms_st]
      refine ih (s + 1) fu _ u (by omega) (by omega) ⟨fun p' h4 h5 s' h6 => ?_, fun s' h6 => ?_⟩
      · unfold upd
        rw [if_neg (by omega)]
        exact hL.1 p' h4 h5 s' h6
      · unfold upd
        by_cases y : s' = s
        · rw [if_pos (by omega), y, show a 0 4 - p = d + 1 by omega]
        · rw [if_neg (by omega)]
          exact hL.2 s' (by omega)
theorem mLay43 {a : Ab} {σ : Sg} (h : RelM a σ) (g : Gb a) (kx : Sg → Option Sg) : ∀ (p fu : Nat) (L : Nat → Int32) (t : Int32), p ≤ a 0 4 → p < fu → (∀ p', p ≤ p' → p' ≤ a 0 4 → ∀ s, s < 2 ^ a 0 4 → L (128 * p' + s) = nI (ls a (a 0 4 - p') p' s)) → ∃ L' u, fX12_layLeast_43 fu kx (ms σ L t) (nI (2 ^ a 0 4)) (fI p) = kx (ms σ L' u) ∧ ∀ p', p' ≤ a 0 4 → ∀ s, s < 2 ^ a 0 4 → L' (128 * p' + s) = nI (ls a (a 0 4 - p') p' s) := by
  have hP := gb_P g
  have h128 := two_pow hP
  intro p
  induction p with
  | zero =>
    intro fu L t h1 h2 hL
    cases fu with
    | zero => omega
    | succ fu =>
      refine ⟨L, t, ?_, fun p' h3 => hL p' (by omega) h3⟩
      rw [fX12_layLeast_43_s]
      unfold fX12_layLeast_43b
      rw [if_pos (by decide)]
  | succ p ih =>
    intro fu L t h1 h2 hL
    cases fu with
    | zero => omega
    | succ fu =>
      obtain ⟨L2, u, e49, hL2⟩ := mLay49 h g (p := p) (d := a 0 4 - p - 1) (by omega) (fun σ_25 x1_25 x2_25 => lt (x2_25 + (-1)) (fun x2_26 => fX12_layLeast_43 fu kx σ_25 x1_25 x2_26)) (2 ^ a 0 4) 0 FU L t (by omega) (by have := FU_ge; omega) ⟨fun p' h4 h5 s h6 => hL p' (by omega) h5 s h6, fun s h6 => by omega⟩
      obtain ⟨L3, u3, e3, hL3⟩ := ih fu L2 u (by omega) (by omega) (fun p' h4 h5 s h6 => by
        rcases Nat.lt_or_ge p p' with q | q
        · exact hL2.1 p' q h5 s h6
        · have : p' = p := by omega
          subst this
          exact hL2.2 s h6)
      refine ⟨L3, u3, ?_, hL3⟩
      have en : nI p + (-1) = fI p := by
        cases p with
        | zero => decide
        | succ p => rw [pk_m1, fI_s]
      rw [fX12_layLeast_43_s, fI_s]
      unfold fX12_layLeast_43b
      rw [if_neg (nI_pos (by omega)), li0, e49, lt_eq, en, e3]
theorem mLay {a : Ab} {σ : Sg} (h : RelM a σ) (g : Gb a) : ∃ L u, fX12_layLeast σ = some (ms σ L u) ∧ ∀ p', p' ≤ a 0 4 → ∀ s, s < 2 ^ a 0 4 → L (128 * p' + s) = nI (ls a (a 0 4 - p') p' s) := by
  have hP := gb_P g
  have h128 := two_pow hP
  unfold fX12_layLeast
  rw [rm_P h, sh_nI (by omega), lt_eq]
  have key := (loop0 (fun n i (_ : Unit) => fX12_layLeast_9 n (fun σ_5 x1_5 => lt ((σ_5 132 3) - 1) (fun x2_6 => fX12_layLeast_43 FU (fun σ_27 => some σ_27) σ_5 x1_5 x2_6)) (cpr σ 144 (128 * a 0 4) i (fun _ => nI 0)) (nI (2 ^ a 0 4)) (nI i)) (2 ^ a 0 4) (by omega) (fun _ => fX12_layLeast_43 FU (fun σ_27 => some σ_27) (cpr σ 144 (128 * a 0 4) (2 ^ a 0 4) (fun _ => nI 0)) (nI (2 ^ a 0 4)) (fI (a 0 4))) (fun _ _ => True) (fun _ x => x) ?_ ?_ (fun _ _ _ _ => trivial) () trivial).1
  · simp only [cpr_0] at key
    rw [li0, key]
    have em : cpr σ 144 (128 * a 0 4) (2 ^ a 0 4) (fun _ => nI 0) = ms σ (fun k => cpr σ 144 (128 * a 0 4) (2 ^ a 0 4) (fun _ => nI 0) 144 k) (σ 132 23) := by
      funext m j
      unfold ms
      rw [st_eq]
      by_cases q : m = 132 ∧ j = 23
      · rw [if_pos q, q.1, q.2, cpr_ne _ _ _ _ (by omega)]
      · rw [if_neg q]
        by_cases z : m = 144
        · rw [z, sr_at]
        · rw [sr_ne z, cpr_ne _ _ _ _ z]
    rw [em]
    obtain ⟨L, u, e, hL⟩ := mLay43 h g (fun σ_27 => some σ_27) (a 0 4) FU (fun k => cpr σ 144 (128 * a 0 4) (2 ^ a 0 4) (fun _ => nI 0) 144 k) (σ 132 23) (Nat.le_refl _) (by have := FU_ge; omega) (fun p' h4 h5 s h6 => by
      have : p' = a 0 4 := by omega
      subst this
      show cpr σ 144 (128 * a 0 4) (2 ^ a 0 4) (fun _ => nI 0) 144 (128 * a 0 4 + s) = _
      rw [cpr_in _ _ _ h6, Nat.sub_self]
      rfl)
    exact ⟨L, u, e, hL⟩
  · intro n _ _
    simp only [fX12_layLeast_9_s]
    unfold fX12_layLeast_9b
    have e : cpr σ 144 (128 * a 0 4) (2 ^ a 0 4) (fun _ => nI 0) 132 3 = nI (a 0 4) := by rw [cpr_ne _ _ _ _ (by omega)]; exact rm_P h
    have en : nI (a 0 4) - nI 1 = fI (a 0 4) := by
      cases a 0 4 with
      | zero => decide
      | succ p => rw [sb_nI (by omega), Nat.add_sub_cancel, fI_s]
    simp (disch := omega) only [lt_eq, bi_some, bv_some, ↓lim1, pk_m1f, fI_add1, li0, li1, li2, li3, li4, li5, li6, li7, li8, li9, li10, li12, li15, li16, li19, li20, li26, li30, li31, li32, li48, li57, li59, li60, li64, li99, li100, li128, li240, li255, li480, li999, li1000, li9000, li9999, liF, nI_add, sb_nI, pk_mul, dv_nI, cl_nI, inbT, le_nI, lt_nI, eq_nI, fI_le, fI_eq, st_ne, st_at, iT, iF, Nat.zero_add, Nat.add_zero, not_true_eq_false, not_false_eq_true, true_and, and_true, false_and, and_false, or_true, true_or, or_false, false_or, Nat.reduceEqDiff, Nat.reduceLeDiff, Nat.reduceLT, Nat.reduceAdd, Nat.reduceSub, Nat.reduceMul, Nat.reduceDiv, Nat.reduceMod, ↓reduceIte, Nat.le_refl, e]
    rw [en]
  · intro n i _ hi _
    simp only [fX12_layLeast_9_s]
    unfold fX12_layLeast_9b
    have e : cpr σ 144 (128 * a 0 4) i (fun _ => nI 0) 132 3 = nI (a 0 4) := by rw [cpr_ne _ _ _ _ (by omega)]; exact rm_P h
    have s := cpr_st σ 144 (128 * a 0 4) i (fun _ => nI 0)
    simp (disch := omega) only [lt_eq, bi_some, bv_some, ↓lim1, pk_m1f, fI_add1, li0, li1, li2, li3, li4, li5, li6, li7, li8, li9, li10, li12, li15, li16, li19, li20, li26, li30, li31, li32, li48, li57, li59, li60, li64, li99, li100, li128, li240, li255, li480, li999, li1000, li9000, li9999, liF, nI_add, sb_nI, pk_mul, dv_nI, cl_nI, inbT, le_nI, lt_nI, eq_nI, fI_le, fI_eq, st_ne, st_at, iT, iF, Nat.zero_add, Nat.add_zero, not_true_eq_false, not_false_eq_true, true_and, and_true, false_and, and_false, or_true, true_or, or_false, false_or, Nat.reduceEqDiff, Nat.reduceLeDiff, Nat.reduceLT, Nat.reduceAdd, Nat.reduceSub, Nat.reduceMul, Nat.reduceDiv, Nat.reduceMod, ↓reduceIte, show ¬ 2 ^ a 0 4 ≤ i by omega, e, s]
