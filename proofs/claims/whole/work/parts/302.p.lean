/-! the class: the course -/
def Cs (a : Ab) (h : Nat) (w : Nat → Nat) (σ : Sg) : Prop := Hl a h σ ∧ StC (a 0 3) (a 0 4) w 11 σ
section CAcc
variable {a : Ab} {h : Nat} {w : Nat → Nat} {σ : Sg}
theorem Cs.of (x : RelC a h σ) : Cs a h (a 4) σ := ⟨x.1, x.2.1⟩
theorem Cs.sw (x : Hl a h σ) (w : Nat → Nat) : Cs a h w (sw a σ w) := ⟨x.sw w, sw_StC⟩
theorem Cs.bs (x : Cs a h w σ) (u v : Int32) : Cs a h w (bs σ u v) := ⟨x.1.bs u v, x.2.to (fun m h1 h2 => bs_ne (by omega))⟩
theorem cs_pat (x : Cs a h w σ) : σ 11 0 = nI (w 0) := x.2.1.1
theorem cs_owed (x : Cs a h w σ) : σ 11 1 = nI (w 2) := x.2.1.2.1
theorem cs_yrs (x : Cs a h w σ) : σ 11 2 = nI (w 1) := x.2.1.2.2.1
theorem cs_told (x : Cs a h w σ) : σ 11 3 = nI (w 4) := x.2.1.2.2.2.1
theorem cs_went (x : Cs a h w σ) : σ 11 4 = nI (w 3) := x.2.1.2.2.2.2
theorem cs_fate (x : Cs a h w σ) {p : Nat} (hp : p < a 0 4) : σ 12 p = nI (w (12 + p)) := (x.2.2.1 p hp).1
theorem cs_harm (x : Cs a h w σ) {p : Nat} (hp : p < a 0 4) : σ 13 p = nI (w (19 + p)) := (x.2.2.1 p hp).2.1
theorem cs_wit (x : Cs a h w σ) {p : Nat} (hp : p < a 0 4) : σ 14 p = nI (w (5 + p)) := (x.2.2.1 p hp).2.2
theorem cs_bear (x : Cs a h w σ) {v : Nat} (hv : v < a 0 3) : σ 15 v = nI (w (26 + v)) := x.2.2.2 v hv
end CAcc
theorem cPers {a : Ab} {h : Nat} {σ : Sg} (x : Hl a h σ) (y : Int32) : fX2_isPerson σ y = some (if isR (a 0 4) y then 1 else 0, σ) := by
  unfold fX2_isPerson fX2_isPerson_19
  by_cases q : y < 0
  · rw [if_pos q, if_neg (fun z => z.1 q)]
  · rw [if_neg q, hl_gk x, hl_P x]
    by_cases z : y < nI (a 0 4)
    · rw [if_neg (Int32.not_le.mpr z), if_pos ⟨q, z⟩]
    · rw [if_pos (Int32.not_lt.mp z), if_neg (fun c => z c.2)]
theorem cVill {a : Ab} {h : Nat} {σ : Sg} (x : Hl a h σ) (y : Int32) : fX2_isVillage σ y = some (if isR (a 0 3) y then 1 else 0, σ) := by
  unfold fX2_isVillage fX2_isVillage_19
  by_cases q : y < 0
  · rw [if_pos q, if_neg (fun z => z.1 q)]
  · rw [if_neg q, hl_gk x, hl_V x]
    by_cases z : y < nI (a 0 3)
    · rw [if_neg (Int32.not_le.mpr z), if_pos ⟨q, z⟩]
    · rw [if_pos (Int32.not_lt.mp z), if_neg (fun c => z c.2)]
theorem cUntold {a : Ab} {h : Nat} {w : Nat → Nat} {σ : Sg} (x : Cs a h w σ) (g : Gb a) : fX2_untold σ = some ((nI (2 ^ a 0 4) - nI 1) &&& (nI (w 4) ^^^ fI 0), σ) := by
  have hP := gb_P g
  unfold fX2_untold fX4_everybody
  rw [hl_gk x.1, bi_some, hl_P x.1, sh_nI (by omega), cs_told x, ← li1, ← lim1]
theorem cFateful {a : Ab} {h : Nat} {w : Nat → Nat} {σ : Sg} (x : Cs a h w σ) (g : Gb a) (hw : Wc (a 0 1) (a 0 3) (a 0 4) w) : fX2_fateful σ = some (nI (tof (a 0 4) w), σ) := by
  have hP := gb_P g
  unfold fX2_fateful
  rw [li0]
  refine (loop0 (fun n i s => fX2_fateful_4 n (fun σ_7 x1_7 => some (x1_7, σ_7)) σ (nI s) (nI i)) (a 0 4) (by omega) (fun s => some (nI s, σ)) (fun i s => s < 128) (fun p s => if 0 < w (12 + p) then ins s p else s) ?_ ?_ ?_ 0 (by omega)).1
  · intro n s hs
    simp only [fX2_fateful_4_s]
    unfold fX2_fateful_4b
    rw [hl_gk x.1, hl_P x.1]
    simp (disch := omega) only [lt_eq, bi_some, bv_some, ↓lim1, pk_m1f, fI_add1, li0, li1, li2, li3, li4, li5, li6, li7, li8, li9, li10, li12, li15, li16, li19, li20, li26, li30, li31, li32, li48, li57, li59, li60, li64, li99, li100, li128, li240, li255, li480, li999, li1000, li9000, li9999, liF, nI_add, sb_nI, pk_mul, dv_nI, cl_nI, inbT, le_nI, lt_nI, eq_nI, fI_le, fI_eq, st_ne, st_at, iT, iF, Nat.zero_add, Nat.add_zero, not_true_eq_false, not_false_eq_true, true_and, and_true, false_and, and_false, or_true, true_or, or_false, false_or, Nat.reduceEqDiff, Nat.reduceLeDiff, Nat.reduceLT, Nat.reduceAdd, Nat.reduceSub, Nat.reduceMul, Nat.reduceDiv, Nat.reduceMod, ↓reduceIte, Nat.le_refl]
  · intro n i s hi hs
    have hf := wc_fate hw hi
    simp only [fX2_fateful_4_s]
    unfold fX2_fateful_4b fX2_fateful_33
    rw [hl_gk x.1, hl_P x.1]
    simp (disch := omega) only [lt_eq, bi_some, bv_some, ↓lim1, pk_m1f, fI_add1, li0, li1, li2, li3, li4, li5, li6, li7, li8, li9, li10, li12, li15, li16, li19, li20, li26, li30, li31, li32, li48, li57, li59, li60, li64, li99, li100, li128, li240, li255, li480, li999, li1000, li9000, li9999, liF, nI_add, sb_nI, pk_mul, dv_nI, cl_nI, inbT, le_nI, lt_nI, eq_nI, fI_le, fI_eq, st_ne, st_at, iT, iF, Nat.zero_add, Nat.add_zero, not_true_eq_false, not_false_eq_true, true_and, and_true, false_and, and_false, or_true, true_or, or_false, false_or, Nat.reduceEqDiff, Nat.reduceLeDiff, Nat.reduceLT, Nat.reduceAdd, Nat.reduceSub, Nat.reduceMul, Nat.reduceDiv, Nat.reduceMod, ↓reduceIte, show ¬ a 0 4 ≤ i by omega, cs_fate x hi]
    by_cases q : 0 < w (12 + i)
    · rw [if_neg (by omega), if_pos q, ← li31, ← li1, ins_nI hs (by omega)]
    · rw [if_pos (by omega), if_neg q]
  · intro i s hi hs
    show (if 0 < w (12 + i) then ins s i else s) < 128
    split
    · exact ins_lt hs (by omega)
    · exact hs
theorem cGoUp {a : Ab} {h : Nat} {w : Nat → Nat} {σ : Sg} (x : Cs a h w σ) (hs : w 3 < 128) {q : Nat} (hq : q < 7) : fX2_canGoUp σ (nI q) = some (nI (1 - bt (w 3) q), σ) := by
  unfold fX2_canGoUp
  rw [cs_went x, bt_nI hs hq]
  rcases bt_01 (w 3) q with z | z <;> rw [z] <;> rfl
theorem cAns {a : Ab} {h : Nat} {w : Nat → Nat} {σ : Sg} (x : Cs a h w σ) (g : Gb a) (hw : Wc (a 0 1) (a 0 3) (a 0 4) w) {p q : Nat} (hp : p < a 0 4) (hq : q < a 0 4) : fX2_canAnswer σ (nI p) (nI q) = some (nI (if 0 < w (12 + p) ∧ bt (w 3) q = 0 then 1 else 0), σ) := by
  have hP := gb_P g
  have hf := wc_fate hw hp
  have hs := (wc_set hw hP).1
  unfold fX2_canAnswer fX2_canAnswer_24
  simp (disch := omega) only [lt_eq, bi_some, bv_some, ↓lim1, pk_m1f, fI_add1, li0, li1, li2, li3, li4, li5, li6, li7, li8, li9, li10, li12, li15, li16, li19, li20, li26, li30, li31, li32, li48, li57, li59, li60, li64, li99, li100, li128, li240, li255, li480, li999, li1000, li9000, li9999, liF, nI_add, sb_nI, pk_mul, dv_nI, cl_nI, inbT, le_nI, lt_nI, eq_nI, fI_le, fI_eq, st_ne, st_at, iT, iF, Nat.zero_add, Nat.add_zero, not_true_eq_false, not_false_eq_true, true_and, and_true, false_and, and_false, or_true, true_or, or_false, false_or, Nat.reduceEqDiff, Nat.reduceLeDiff, Nat.reduceLT, Nat.reduceAdd, Nat.reduceSub, Nat.reduceMul, Nat.reduceDiv, Nat.reduceMod, ↓reduceIte, cs_fate x hp, cGoUp x hs (show q < 7 by omega)]
  by_cases z : w (12 + p) ≤ 0
  · rw [if_pos z, if_neg (by omega)]
  · rw [if_neg z]
    rcases bt_01 (w 3) q with y | y
    · simp (disch := omega) only [lt_eq, bi_some, bv_some, ↓lim1, pk_m1f, fI_add1, li0, li1, li2, li3, li4, li5, li6, li7, li8, li9, li10, li12, li15, li16, li19, li20, li26, li30, li31, li32, li48, li57, li59, li60, li64, li99, li100, li128, li240, li255, li480, li999, li1000, li9000, li9999, liF, nI_add, sb_nI, pk_mul, dv_nI, cl_nI, inbT, le_nI, lt_nI, eq_nI, fI_le, fI_eq, st_ne, st_at, iT, iF, Nat.zero_add, Nat.add_zero, not_true_eq_false, not_false_eq_true, true_and, and_true, false_and, and_false, or_true, true_or, or_false, false_or, Nat.reduceEqDiff, Nat.reduceLeDiff, Nat.reduceLT, Nat.reduceAdd, Nat.reduceSub, Nat.reduceMul, Nat.reduceDiv, Nat.reduceMod, ↓reduceIte, y, show 0 < w (12 + p) by omega]
    · simp (disch := omega) only [lt_eq, bi_some, bv_some, ↓lim1, pk_m1f, fI_add1, li0, li1, li2, li3, li4, li5, li6, li7, li8, li9, li10, li12, li15, li16, li19, li20, li26, li30, li31, li32, li48, li57, li59, li60, li64, li99, li100, li128, li240, li255, li480, li999, li1000, li9000, li9999, liF, nI_add, sb_nI, pk_mul, dv_nI, cl_nI, inbT, le_nI, lt_nI, eq_nI, fI_le, fI_eq, st_ne, st_at, iT, iF, Nat.zero_add, Nat.add_zero, not_true_eq_false, not_false_eq_true, true_and, and_true, false_and, and_false, or_true, true_or, or_false, false_or, Nat.reduceEqDiff, Nat.reduceLeDiff, Nat.reduceLT, Nat.reduceAdd, Nat.reduceSub, Nat.reduceMul, Nat.reduceDiv, Nat.reduceMod, ↓reduceIte, y, Nat.sub_self]
/-! the class: bargains -/
theorem cGot (σ : Sg) {kind wit step t : Nat} (hk : kind ≤ 3) (hw : wit ≤ 9) (hs : step ≤ 9) (ht : t ≤ 100) : fX0_gotOff σ (nI kind) (nI wit) (nI step) (nI t) = some (nI (gof kind wit step t), σ) := by
  unfold fX0_gotOff gof
  simp (disch := omega) only [lt_eq, bi_some, bv_some, ↓lim1, pk_m1f, fI_add1, li0, li1, li2, li3, li4, li5, li6, li7, li8, li9, li10, li12, li15, li16, li19, li20, li26, li30, li31, li32, li48, li57, li59, li60, li64, li99, li100, li128, li240, li255, li480, li999, li1000, li9000, li9999, liF, nI_add, sb_nI, pk_mul, dv_nI, cl_nI, inbT, le_nI, lt_nI, eq_nI, fI_le, fI_eq, st_ne, st_at, iT, iF, Nat.zero_add, Nat.add_zero, not_true_eq_false, not_false_eq_true, true_and, and_true, false_and, and_false, or_true, true_or, or_false, false_or, Nat.reduceEqDiff, Nat.reduceLeDiff, Nat.reduceLT, Nat.reduceAdd, Nat.reduceSub, Nat.reduceMul, Nat.reduceDiv, Nat.reduceMod, ↓reduceIte]
  by_cases h1 : kind = 1
  · rw [if_pos h1, if_pos h1]
  · rw [if_neg h1, if_neg h1]
    by_cases h2 : kind = 2
    · rw [if_pos h2, if_pos h2]
      by_cases h3 : t % 2 = 0
      · rw [if_pos (show t - t / 2 * 2 = 0 by omega), if_pos h3]
      · rw [if_neg (show ¬ t - t / 2 * 2 = 0 by omega), if_neg h3]
    · rw [if_neg h2, if_neg h2]
      by_cases h3 : kind = 3
      · rw [if_pos h3, if_pos h3]
      · rw [if_neg h3, if_neg h3]
theorem mx0 {x y : Nat} (hx : x < 1000000) (hy : y < 1000000) : (if nI 0 < nI x - nI y then nI x - nI y else nI 0) = nI (x - y) := by
  by_cases h : y < x
  · rw [sb_nI (by omega), if_pos (by rw [lt_nI (by omega) (by omega)]; omega)]
  · have : ¬ nI 0 < nI x - nI y := by
      rw [Int32.lt_iff_toInt_lt, pk_sub_toInt (by omega) (by omega), nI_toInt (by omega)]
      omega
    rw [if_neg this, show x - y = 0 by omega]
theorem mn_nI {x c : Nat} (hx : x < 1000000) (hc : c < 1000000) : (if nI x < nI c then nI x else nI c) = nI (if x ≤ c then x else c) := by
  simp only [show (nI x < nI c) = (x < c) from lt_nI (by omega) (by omega)]
  by_cases h : x < c
  · rw [if_pos h, if_pos (by omega)]
  · rw [if_neg h]
    by_cases h2 : x ≤ c
    · rw [if_pos h2, show x = c by omega]
    · rw [if_neg h2]
theorem mx0' {x y : Nat} (hx : x < 1000000) (hy : y < 1000000) : (if (0 : Int32) < nI x - nI y then nI x - nI y else 0) = nI (x - y) := mx0 hx hy
theorem mn99' {x : Nat} (hx : x < 1000000) : (if nI x < 9999 then nI x else 9999) = nI (if x ≤ 9999 then x else 9999) := mn_nI (c := 9999) hx (by omega)
theorem cHold1 (σ : Sg) {kind wit step pat : Nat} (hk : kind ≤ 3) (hw : wit ≤ 9) (hs : step ≤ 9) (kh : Sg → Int32 → Int32 → Int32 → Int32 → Int32 → Option Sg) (kx : Sg → Option Sg) {r t f : Nat} (hp : t + (r + 1) = pat) (hpat : pat ≤ 20) (hf : f ≤ 99) (h0 : ¬ f = 0) {G : Nat} (hG : gof kind wit step t = G) : fX0_hold_13b kh kx (bs σ (nI f) (nI t)) (nI kind) (nI wit) (nI pat) (nI step) (nI t) = kh (bs σ (nI (if 0 < r ∧ 0 < f - G ∧ t % 3 = 2 then (if f - G + step ≤ 99 then f - G + step else 99) else f - G)) (nI (t + 1))) (nI kind) (nI wit) (nI pat) (nI step) (nI (t + 1)) := by
  have hgo := gof_le (kind := kind) (t := t) hw hs
  rw [hG] at hgo
  unfold fX0_hold_13b
  rw [cGot _ hk hw hs (by omega), hG, bs_0]
  simp (disch := omega) only [lt_eq, bi_some, bv_some, ↓lim1, pk_m1f, fI_add1, li0, li1, li2, li3, li4, li5, li6, li7, li8, li9, li10, li12, li15, li16, li19, li20, li26, li30, li31, li32, li48, li57, li59, li60, li64, li99, li100, li128, li240, li255, li480, li999, li1000, li9000, li9999, liF, nI_add, sb_nI, pk_mul, dv_nI, cl_nI, inbT, le_nI, lt_nI, eq_nI, fI_le, fI_eq, st_ne, st_at, iT, iF, Nat.zero_add, Nat.add_zero, not_true_eq_false, not_false_eq_true, true_and, and_true, false_and, and_false, or_true, true_or, or_false, false_or, Nat.reduceEqDiff, Nat.reduceLeDiff, Nat.reduceLT, Nat.reduceAdd, Nat.reduceSub, Nat.reduceMul, Nat.reduceDiv, Nat.reduceMod, ↓reduceIte, show ¬ pat ≤ t by omega, show ¬ f ≤ 0 by omega]
  rw [mx0 (by omega) (by omega), bs_st0, bs_st1]
  unfold fX0_hold_77 fX0_hold_78 fX0_hold_109
  rw [bs_0]
  simp (disch := omega) only [lt_eq, bi_some, bv_some, ↓lim1, pk_m1f, fI_add1, li0, li1, li2, li3, li4, li5, li6, li7, li8, li9, li10, li12, li15, li16, li19, li20, li26, li30, li31, li32, li48, li57, li59, li60, li64, li99, li100, li128, li240, li255, li480, li999, li1000, li9000, li9999, liF, nI_add, sb_nI, pk_mul, dv_nI, cl_nI, inbT, le_nI, lt_nI, eq_nI, fI_le, fI_eq, st_ne, st_at, iT, iF, Nat.zero_add, Nat.add_zero, not_true_eq_false, not_false_eq_true, true_and, and_true, false_and, and_false, or_true, true_or, or_false, false_or, Nat.reduceEqDiff, Nat.reduceLeDiff, Nat.reduceLT, Nat.reduceAdd, Nat.reduceSub, Nat.reduceMul, Nat.reduceDiv, Nat.reduceMod, ↓reduceIte, bs_st0]
  by_cases q : pat ≤ t + 1
  · rw [if_pos q, if_neg (show ¬ (0 < r ∧ 0 < f - G ∧ t % 3 = 2) by omega)]
  · rw [if_neg q]
    by_cases q2 : f - G ≤ 0
    · rw [if_pos q2, if_neg (show ¬ (0 < r ∧ 0 < f - G ∧ t % 3 = 2) by omega)]
    · rw [if_neg q2]
      by_cases q3 : t % 3 = 2
      · rw [if_pos (show t - t / 3 * 3 = 2 by omega), if_pos (show 0 < r ∧ 0 < f - G ∧ t % 3 = 2 by omega)]
        by_cases q4 : f - G + step < 99
        · rw [if_pos q4, if_pos (show f - G + step ≤ 99 by omega)]
        · rw [if_neg q4]
          by_cases q5 : f - G + step ≤ 99
          · rw [if_pos q5, show f - G + step = 99 by omega]
          · rw [if_neg q5]
      · rw [if_neg (show ¬ t - t / 3 * 3 = 2 by omega), if_neg (show ¬ (0 < r ∧ 0 < f - G ∧ t % 3 = 2) by omega)]
theorem cHold_loop (σ : Sg) {kind wit step pat : Nat} (hk : kind ≤ 3) (hw : wit ≤ 9) (hs : step ≤ 9) (hpat : pat ≤ 20) (kx : Sg → Option Sg) : ∀ (r n t f : Nat), t + r = pat → r < n → f ≤ 99 →
    fX0_hold_13 n kx (bs σ (nI f) (nI t)) (nI kind) (nI wit) (nI pat) (nI step) (nI t) = kx (bs σ (nI (bgn (gof kind wit step) step r t f).1) (nI (bgn (gof kind wit step) step r t f).2)) := by
  intro r
  induction r with
  | zero =>
    intro n t f h1 h2 hf
    cases n with
    | zero => omega
    | succ n =>
      rw [fX0_hold_13_s, bgn]
      unfold fX0_hold_13b
      simp (disch := omega) only [lt_eq, bi_some, bv_some, ↓lim1, pk_m1f, fI_add1, li0, li1, li2, li3, li4, li5, li6, li7, li8, li9, li10, li12, li15, li16, li19, li20, li26, li30, li31, li32, li48, li57, li59, li60, li64, li99, li100, li128, li240, li255, li480, li999, li1000, li9000, li9999, liF, nI_add, sb_nI, pk_mul, dv_nI, cl_nI, inbT, le_nI, lt_nI, eq_nI, fI_le, fI_eq, st_ne, st_at, iT, iF, Nat.zero_add, Nat.add_zero, not_true_eq_false, not_false_eq_true, true_and, and_true, false_and, and_false, or_true, true_or, or_false, false_or, Nat.reduceEqDiff, Nat.reduceLeDiff, Nat.reduceLT, Nat.reduceAdd, Nat.reduceSub, Nat.reduceMul, Nat.reduceDiv, Nat.reduceMod, ↓reduceIte, show pat ≤ t by omega]
  | succ r ih =>
    intro n t f h1 h2 hf
    cases n with
    | zero => omega
    | succ n =>
      rw [fX0_hold_13_s, bgn]
      by_cases q : f = 0
      · rw [if_pos q]
        unfold fX0_hold_13b
        rw [bs_0]
        simp (disch := omega) only [lt_eq, bi_some, bv_some, ↓lim1, pk_m1f, fI_add1, li0, li1, li2, li3, li4, li5, li6, li7, li8, li9, li10, li12, li15, li16, li19, li20, li26, li30, li31, li32, li48, li57, li59, li60, li64, li99, li100, li128, li240, li255, li480, li999, li1000, li9000, li9999, liF, nI_add, sb_nI, pk_mul, dv_nI, cl_nI, inbT, le_nI, lt_nI, eq_nI, fI_le, fI_eq, st_ne, st_at, iT, iF, Nat.zero_add, Nat.add_zero, not_true_eq_false, not_false_eq_true, true_and, and_true, false_and, and_false, or_true, true_or, or_false, false_or, Nat.reduceEqDiff, Nat.reduceLeDiff, Nat.reduceLT, Nat.reduceAdd, Nat.reduceSub, Nat.reduceMul, Nat.reduceDiv, Nat.reduceMod, ↓reduceIte, show ¬ pat ≤ t by omega, show f ≤ 0 by omega]
      · rw [if_neg q, cHold1 σ hk hw hs _ _ h1 hpat hf q rfl, ih n (t + 1) _ (by omega) (by omega) (by
            repeat' split
            all_goals omega)]
theorem cBarg {a : Ab} {h : Nat} {σ : Sg} (x : Cs a h (a 4) σ) (g : Gb a) {q f : Nat} (hq : q < a 0 4) (hf : f ≤ 99) : fX2_bargainBy σ (nI q) (nI f) = some (bs σ (nI (brg a q f).1) (nI (brg a q f).2)) := by
  have hP := gb_P g
  have hk := gb_kind g hq
  have hw := wc_wit (gb_w g) hq
  have hst := gb_step g
  have hp := wc_pat (gb_w g)
  unfold fX2_bargainBy fX0_hold
  rw [hl_gk x.1, hl_gk x.1, hl_step x.1, cs_pat x]
  simp (disch := omega) only [lt_eq, bi_some, bv_some, ↓lim1, pk_m1f, fI_add1, li0, li1, li2, li3, li4, li5, li6, li7, li8, li9, li10, li12, li15, li16, li19, li20, li26, li30, li31, li32, li48, li57, li59, li60, li64, li99, li100, li128, li240, li255, li480, li999, li1000, li9000, li9999, liF, nI_add, sb_nI, pk_mul, dv_nI, cl_nI, inbT, le_nI, lt_nI, eq_nI, fI_le, fI_eq, st_ne, st_at, iT, iF, Nat.zero_add, Nat.add_zero, not_true_eq_false, not_false_eq_true, true_and, and_true, false_and, and_false, or_true, true_or, or_false, false_or, Nat.reduceEqDiff, Nat.reduceLeDiff, Nat.reduceLT, Nat.reduceAdd, Nat.reduceSub, Nat.reduceMul, Nat.reduceDiv, Nat.reduceMod, ↓reduceIte, hl_kind x.1 hq, cs_wit x hq, bs_in]
  rw [cHold_loop σ hk hw.2 hst hp _ (a 4 0) FU 0 f (by omega) (by have := FU_ge; omega) hf, bv_some]
  rfl
theorem cLeft {a : Ab} {h : Nat} {σ : Sg} (x : Cs a h (a 4) σ) (g : Gb a) {q f : Nat} (hq : q < a 0 4) (hf : f ≤ 99) : fX2_leftBy σ (nI q) (nI f) = some (nI (brg a q f).1, bs σ (nI (brg a q f).1) (nI (brg a q f).2)) := by
  unfold fX2_leftBy
  rw [cBarg x g hq hf, bv_some, bs_0]
theorem cForetell {a : Ab} {σ : Sg} (w : Nat → Nat) (hP : a 0 4 ≤ 7) (hs : w 4 < 128) {p n : Nat} (hp : p < a 0 4) : fX2_foretell (sw a σ w) (nI p) (nI n) = some (sw a σ (telW w p n)) := by
  unfold fX2_foretell
  rw [if_pos (inb_nI (by omega) (by omega)), cl_nI (by omega), sw_st_fate hP hp, lt_eq, sw_told, va_up_ne _ _ (show 4 ≠ 12 + p by omega), ins_nI hs (by omega), sw_st_told, lt_eq]
  rfl
theorem cAnswer {a : Ab} {h : Nat} {σ : Sg} (x : Hl a h σ) (g : Gb a) {p q : Nat} (hp : p < a 0 4) (hq : q < a 0 4) : ∃ u v, fX2_answerBack (sw a σ (a 4)) (nI p) (nI q) = some (sw a (bs σ u v) (ansW (a 4) p q (brg a q (a 4 (12 + p))).1)) := by
  have hP := gb_P g
  have hf := wc_fate (gb_w g) hp
  have ho := wc_owed (gb_w g)
  have hpt := wc_pat (gb_w g)
  have hs := (wc_set (gb_w g) hP).1
  have hb := (brg_le g (p := q) hf).1
  refine ⟨nI (brg a q (a 4 (12 + p))).1, nI (brg a q (a 4 (12 + p))).2, ?_⟩
  unfold fX2_answerBack ansW
  have ec : (nI p).toNatClampNeg = p := cl_nI (by omega)
  simp only [ec]
  rw [sw_fate hp, cLeft (Cs.sw x (a 4)) g hq hf]
  rw [bi_some, bs_sw]
  generalize bs σ (nI (brg a q (a 4 (12 + p))).1) (nI (brg a q (a 4 (12 + p))).2) = S
  generalize (brg a q (a 4 (12 + p))).1 = l at hb ⊢
  rw [sw_fate hp, if_pos (inb_nI (show p < 7 by omega) (by omega)), if_pos (inb_nI (show p < 7 by omega) (by omega)), lt_eq, mx0' (by omega) (by omega), if_pos (inb_nI (show p < 7 by omega) (by omega)), sw_st_fate hP hp, lt_eq, sw_owed, va_up_ne _ _ (show 2 ≠ 12 + p by omega), nI_add, mn99' (by omega), sw_st_owed, lt_eq, sw_pat, va_up_ne _ _ (show 0 ≠ 2 by omega), va_up_ne _ _ (show 0 ≠ 12 + p by omega)]
  have e : (if (1 : Int32) < nI (a 4 0) - 1 then nI (a 4 0) - 1 else 1) = nI (if a 4 0 ≤ 1 then 1 else a 4 0 - 1) := by
    rcases (show a 4 0 = 0 ∨ 0 < a 4 0 by omega) with z | z
    · rw [z]; decide
    · rw [li1, sb_nI (by omega)]
      simp only [show (nI 1 < nI (a 4 0 - 1)) = (1 < a 4 0 - 1) from lt_nI (by omega) (by omega)]
      by_cases y : 1 < a 4 0 - 1
      · rw [if_pos y, if_neg (by omega)]
      · rw [if_neg y]
        by_cases c : a 4 0 ≤ 1
        · rw [if_pos c]
        · rw [if_neg c, show a 4 0 - 1 = 1 by omega]
  have e2 : (if a 4 0 ≤ 1 then 1 else a 4 0 - 1) = (if a 4 0 ≤ 1 then a 4 0 else a 4 0 - 1) := by
    have h3 := (gb_w g).1.2.2.1
    have h4 := (g.1.2.2.2.2)
    have : 0 < a 4 0 := h3 (by
      rcases (show a 0 1 = 0 ∨ 0 < a 0 1 by omega) with c | c
      · have := (h4 c).1; omega
      · exact c)
    by_cases c : a 4 0 ≤ 1
    · rw [if_pos c, if_pos c]; omega
    · rw [if_neg c, if_neg c]
  rw [e, e2, sw_st_pat, lt_eq, sw_went, va_up_ne _ _ (show 3 ≠ 0 by omega), va_up_ne _ _ (show 3 ≠ 2 by omega), va_up_ne _ _ (show 3 ≠ 12 + p by omega), ins_nI hs (by omega), sw_st_went, lt_eq]
