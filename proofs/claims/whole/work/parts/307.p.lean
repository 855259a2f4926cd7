/-! the class: returns, the book -/
theorem fo_split {α : Type} (f : Nat → α → α) : ∀ (d e i : Nat) (a : α), fo f (d + e) i a = fo f e (i + d) (fo f d i a) := by
  intro d
  induction d with
  | zero => intro e i a; rw [Nat.zero_add]; rfl
  | succ d ih =>
    intro e i a
    rw [show d + 1 + e = (d + e) + 1 by omega]
    show fo f (d + e) (i + 1) (f i a) = fo f e (i + (d + 1)) (fo f d (i + 1) (f i a))
    rw [ih e (i + 1) (f i a), show i + 1 + d = i + (d + 1) by omega]
theorem fo_id {α : Type} {f : Nat → α → α} (d i : Nat) (a : α) (h : ∀ j b, i ≤ j → j < i + d → f j b = b) : fo f d i a = a := fo_inv (fun _ b => b = a) d i a rfl (fun j b h1 h2 h3 => by rw [h j b h1 h2]; exact h3)
theorem bt_out {s V k : Nat} (hs : s < 2 ^ V) (hk : V ≤ k) : bt s k = 0 := by
  unfold bt
  have : 2 ^ V ≤ 2 ^ k := Nat.pow_le_pow_right (by omega) hk
  rw [Nat.div_eq_of_lt (by omega)]
section Ret
variable {a : Ab} {h : Nat} {σ : Sg}
def Rt (a : Ab) (h : Nat) (σ : Sg) : Prop := Hl a h σ ∧ ReC (a 0 3) (a 5 4) (a 7) (a 8) σ
theorem Rt.of (x : RelC a h σ) : Rt a h σ := ⟨x.1, x.2.2.2.2.2.1⟩
theorem cTakenBy (x : Rt a h σ) (g : Gb a) {set k : Nat} (hs : set < 2 ^ a 0 3) (hk : k < a 5 4) : fX9_takenBy σ (nI set) (nI k) = some (nI (smr (a 0 3) (a 8) set k), σ) := by
  have hV := gb_V g
  have hR := gb_rets g
  have h16 := bt16 hs hV
  unfold fX9_takenBy
  have e : smr (a 0 3) (a 8) set k = fo (fun v s => s + (if bt set v = 0 then 0 else a 8 (4 * k + v))) 4 0 0 := by
    have := fo_split (fun v s => s + (if bt set v = 0 then 0 else a 8 (4 * k + v))) (a 0 3) (4 - a 0 3) 0 0
    rw [show a 0 3 + (4 - a 0 3) = 4 by omega] at this
    rw [this]
    exact (fo_id _ _ _ (fun j b h1 h2 => by
      show b + _ = b
      rw [if_pos (bt_out hs (by omega))]; rfl)).symm
  rw [e, li0]
  refine (loop0 (fun n i s => fX9_takenBy_5 n (fun σ_6 x3_6 => some (x3_6, σ_6)) σ (nI set) (nI k) (nI s) (nI i)) 4 (by omega) (fun s => some (nI s, σ)) (fun i s => s ≤ 99 * i) (fun v s => s + (if bt set v = 0 then 0 else a 8 (4 * k + v))) ?_ ?_ ?_ 0 (by omega)).1
  · intro n s hs
    simp only [fX9_takenBy_5_s]
    unfold fX9_takenBy_5b
    simp (disch := omega) only [lt_eq, bi_some, bv_some, ↓lim1, pk_m1f, fI_add1, li0, li1, li2, li3, li4, li5, li6, li7, li8, li9, li10, li12, li15, li16, li19, li20, li26, li30, li31, li32, li48, li57, li59, li60, li64, li99, li100, li128, li240, li255, li480, li999, li1000, li9000, li9999, liF, nI_add, sb_nI, pk_mul, dv_nI, cl_nI, inbT, le_nI, lt_nI, eq_nI, fI_le, fI_eq, st_ne, st_at, iT, iF, Nat.zero_add, Nat.add_zero, not_true_eq_false, not_false_eq_true, true_and, and_true, false_and, and_false, or_true, true_or, or_false, false_or, Nat.reduceEqDiff, Nat.reduceLeDiff, Nat.reduceLT, Nat.reduceAdd, Nat.reduceSub, Nat.reduceMul, Nat.reduceDiv, Nat.reduceMod, ↓reduceIte]
  · intro n i s hi hss
    simp only [fX9_takenBy_5_s]
    unfold fX9_takenBy_5b fX9_takenBy_34
    rw [bt_nI (by omega) (by omega)]
    rcases bt_01 set i with q | q
    · simp (disch := omega) only [lt_eq, bi_some, bv_some, ↓lim1, pk_m1f, fI_add1, li0, li1, li2, li3, li4, li5, li6, li7, li8, li9, li10, li12, li15, li16, li19, li20, li26, li30, li31, li32, li48, li57, li59, li60, li64, li99, li100, li128, li240, li255, li480, li999, li1000, li9000, li9999, liF, nI_add, sb_nI, pk_mul, dv_nI, cl_nI, inbT, le_nI, lt_nI, eq_nI, fI_le, fI_eq, st_ne, st_at, iT, iF, Nat.zero_add, Nat.add_zero, not_true_eq_false, not_false_eq_true, true_and, and_true, false_and, and_false, or_true, true_or, or_false, false_or, Nat.reduceEqDiff, Nat.reduceLeDiff, Nat.reduceLT, Nat.reduceAdd, Nat.reduceSub, Nat.reduceMul, Nat.reduceDiv, Nat.reduceMod, ↓reduceIte, show ¬ 4 ≤ i by omega, q]
    · have hi2 : i < a 0 3 := by
        rcases Nat.lt_or_ge i (a 0 3) with c | c
        · exact c
        · rw [bt_out hs c] at q; cases q
      have e1 := (x.2.2 k hk).2 i hi2
      have e2 : σ 116 (k * 4 + i) = nI (a 8 (4 * k + i)) := by rw [Nat.mul_comm]; exact e1
      simp (disch := omega) only [lt_eq, bi_some, bv_some, ↓lim1, pk_m1f, fI_add1, li0, li1, li2, li3, li4, li5, li6, li7, li8, li9, li10, li12, li15, li16, li19, li20, li26, li30, li31, li32, li48, li57, li59, li60, li64, li99, li100, li128, li240, li255, li480, li999, li1000, li9000, li9999, liF, nI_add, sb_nI, pk_mul, dv_nI, cl_nI, inbT, le_nI, lt_nI, eq_nI, fI_le, fI_eq, st_ne, st_at, iT, iF, Nat.zero_add, Nat.add_zero, not_true_eq_false, not_false_eq_true, true_and, and_true, false_and, and_false, or_true, true_or, or_false, false_or, Nat.reduceEqDiff, Nat.reduceLeDiff, Nat.reduceLT, Nat.reduceAdd, Nat.reduceSub, Nat.reduceMul, Nat.reduceDiv, Nat.reduceMod, ↓reduceIte, show ¬ 4 ≤ i by omega, q, e2]
  · intro i s hi hss
    show s + (if bt set i = 0 then 0 else a 8 (4 * k + i)) ≤ 99 * (i + 1)
    split
    · omega
    · next q =>
      have hi2 : i < a 0 3 := by
        rcases Nat.lt_or_ge i (a 0 3) with c | c
        · exact c
        · exact absurd (bt_out hs c) q
      have := gb_retb g hk hi2
      omega
theorem cFits (x : Rt a h σ) (g : Gb a) (h1 : a 0 1 ≠ 0) {set : Nat} (hs : set < 2 ^ a 0 3) : fX9_fits σ (nI set) = some (nI (mb a set), σ) := by
  have hV := gb_V g
  have hR := gb_rets g
  have key : ∀ (d k fu : Nat), k + d = a 5 4 → d < fu → fX9_fits_2 fu (fun σ_6 => some (1, σ_6)) σ (nI set) (nI k) = some (nI (mbl a set d k 1), σ) := by
    intro d
    induction d with
    | zero =>
      intro k fu e1 e2
      cases fu with
      | zero => omega
      | succ fu =>
        rw [fX9_fits_2_s]
        unfold fX9_fits_2b
        rw [x.2.1, if_pos (show nI (a 5 4) ≤ nI k by rw [le_nI (by omega) (by omega)]; omega)]
        rfl
    | succ d ih =>
      intro k fu e1 e2
      cases fu with
      | zero => omega
      | succ fu =>
        have hk : k < a 5 4 := by omega
        have hsm := smr_le hV set k (fun v hv => gb_retb g hk hv)
        have hr := gb_ret g hk
        have e0 : mbl a set (d + 1) k 1 = mbl a set d (k + 1) (if smr (a 0 3) (a 8) set k = a 7 k then 1 else 0) := rfl
        rw [fX9_fits_2_s]
        unfold fX9_fits_2b
        rw [x.2.1, cTakenBy x g hs hk, e0]
        simp (disch := omega) only [lt_eq, bi_some, bv_some, ↓lim1, pk_m1f, fI_add1, li0, li1, li2, li3, li4, li5, li6, li7, li8, li9, li10, li12, li15, li16, li19, li20, li26, li30, li31, li32, li48, li57, li59, li60, li64, li99, li100, li128, li240, li255, li480, li999, li1000, li9000, li9999, liF, nI_add, sb_nI, pk_mul, dv_nI, cl_nI, inbT, le_nI, lt_nI, eq_nI, fI_le, fI_eq, st_ne, st_at, iT, iF, Nat.zero_add, Nat.add_zero, not_true_eq_false, not_false_eq_true, true_and, and_true, false_and, and_false, or_true, true_or, or_false, false_or, Nat.reduceEqDiff, Nat.reduceLeDiff, Nat.reduceLT, Nat.reduceAdd, Nat.reduceSub, Nat.reduceMul, Nat.reduceDiv, Nat.reduceMod, ↓reduceIte, show ¬ a 5 4 ≤ k by omega, (x.2.2 k hk).1]
        by_cases q : smr (a 0 3) (a 8) set k = a 7 k
        · rw [if_pos q, if_pos q]
          exact ih (k + 1) fu (by omega) (by omega)
        · rw [if_neg q, if_neg q, mbl_0]
  unfold fX9_fits mb
  rw [if_neg h1]
  exact key (a 5 4) 0 FU (by omega) (by have := FU_ge; omega)
/-- how many sets there are -/
def sts (a : Ab) : Nat := if a 0 1 = 0 then 0 else 2 ^ a 0 3
theorem sts_le (g : Gb a) : sts a ≤ 16 := by
  have := pow16 (gb_V g)
  unfold sts
  split <;> omega
theorem cSets (x : Rt a h σ) (g : Gb a) : fX9_setsOf h σ = some (nI (sts a), σ) := by
  have hV := gb_V g
  unfold fX9_setsOf sts
  rw [hl_there x.1, hl_V x.1, sh_nI (by omega)]
  by_cases q : a 0 1 = 0
  · rw [if_pos q, if_pos (by decide), if_pos q]; rfl
  · rw [if_neg q, if_neg (by decide), if_neg q]
theorem sts_in {j : Nat} (hj : j < sts a) : a 0 1 ≠ 0 ∧ j < 2 ^ a 0 3 := by
  unfold sts at hj
  by_cases q : a 0 1 = 0
  · rw [if_pos q] at hj; omega
  · rw [if_neg q] at hj; exact ⟨q, hj⟩
theorem cCountWith (x : Rt a h σ) (g : Gb a) {m : Int32} {c : Nat → Bool} (hc : ∀ s, s < 16 → ((nI s &&& m = m) ↔ c s = true)) : fX9_countWith h σ m = some (nI (fo (fun set n => n + (if c set = true then mb a set else 0)) (sts a) 0 0), σ) := by
  have hS := sts_le g
  unfold fX9_countWith
  rw [li0]
  refine (loop0 (fun n i s => fX9_countWith_5 h n (fun σ_8 x3_8 => some (x3_8, σ_8)) σ m (nI s) (nI i)) (sts a) (by omega) (fun s => some (nI s, σ)) (fun i s => s ≤ i) (fun set n => n + (if c set = true then mb a set else 0)) ?_ ?_ ?_ 0 (Nat.le_refl _)).1
  · intro n s hs
    simp only [fX9_countWith_5_s]
    unfold fX9_countWith_5b
    rw [cSets x g, bi_some, if_pos (Int32.le_refl _)]
  · intro n i s hi hs
    obtain ⟨h1, h2⟩ := sts_in hi
    simp only [fX9_countWith_5_s]
    unfold fX9_countWith_5b fX9_countWith_34
    rw [cSets x g, bi_some, cFits x g h1 h2, bi_some]
    simp only [hc i (by omega)]
    have hm := mb_01 a i
    simp (disch := omega) only [lt_eq, bi_some, bv_some, ↓lim1, pk_m1f, fI_add1, li0, li1, li2, li3, li4, li5, li6, li7, li8, li9, li10, li12, li15, li16, li19, li20, li26, li30, li31, li32, li48, li57, li59, li60, li64, li99, li100, li128, li240, li255, li480, li999, li1000, li9000, li9999, liF, nI_add, sb_nI, pk_mul, dv_nI, cl_nI, inbT, le_nI, lt_nI, eq_nI, fI_le, fI_eq, st_ne, st_at, iT, iF, Nat.zero_add, Nat.add_zero, not_true_eq_false, not_false_eq_true, true_and, and_true, false_and, and_false, or_true, true_or, or_false, false_or, Nat.reduceEqDiff, Nat.reduceLeDiff, Nat.reduceLT, Nat.reduceAdd, Nat.reduceSub, Nat.reduceMul, Nat.reduceDiv, Nat.reduceMod, ↓reduceIte, show ¬ sts a ≤ i by omega]
    by_cases q : c i = true
    · rw [if_pos q, if_pos q]
      rcases (show mb a i = 0 ∨ mb a i = 1 by omega) with z | z
      · rw [z, if_pos rfl]; rfl
      · rw [z, if_neg (by decide)]
    · rw [if_neg q, if_neg q]; rfl
  · intro i s hi hs
    have hm := mb_01 a i
    show s + (if c i = true then mb a i else 0) ≤ i + 1
    split <;> omega
theorem mny_sts (g : Gb a) : fo (fun set n => n + mb a set) (sts a) 0 0 = mny a := by
  unfold sts mny
  by_cases q : a 0 1 = 0
  · rw [if_pos q]
    have hV := (g.1.2.2.2.2 q).2
    have e : mb a 0 = 0 := by unfold mb; rw [if_pos q, mbl_0]
    rw [hV]
    show 0 = 0 + mb a 0
    rw [e]
  · rw [if_neg q]
theorem wth_sts (g : Gb a) (v : Nat) : fo (fun set n => n + (if bt set v = 0 then 0 else mb a set)) (sts a) 0 0 = wth a v := by
  unfold sts wth
  by_cases q : a 0 1 = 0
  · rw [if_pos q]
    have hV := (g.1.2.2.2.2 q).2
    have e : mb a 0 = 0 := by unfold mb; rw [if_pos q, mbl_0]
    rw [hV]
    show 0 = 0 + (if bt 0 v = 0 then 0 else mb a 0)
    rw [e]
    split <;> rfl
  · rw [if_neg q]
theorem cMany (x : Rt a h σ) (g : Gb a) : fX9_countSets h σ = some (nI (mny a), σ) := by
  unfold fX9_countSets
  rw [cCountWith x g (c := fun _ => true) (fun s hs => ⟨fun _ => rfl, fun _ => Int32.and_zero⟩), bi_some]
  simp only [if_true]
  rw [mny_sts g]
theorem bit_all : ∀ s : Fin 16, ∀ v : Fin 4, (nI s.val &&& nI (2 ^ v.val) = nI (2 ^ v.val)) ↔ (decide (bt s.val v.val ≠ 0)) = true := by decide +kernel
theorem cWith (x : Rt a h σ) (g : Gb a) {v : Nat} (hv : v < 4) : fX9_countWith h σ (nI (2 ^ v)) = some (nI (wth a v), σ) := by
  rw [cCountWith x g (c := fun s => decide (bt s v ≠ 0)) (fun s hs => bit_all ⟨s, hs⟩ ⟨v, hv⟩)]
  have e : fo (fun set n => n + (if decide (bt set v ≠ 0) = true then mb a set else 0)) (sts a) 0 0 = wth a v := by
    rw [← wth_sts g v]
    refine fo_congr _ _ _ (fun j b h1 h2 => ?_)
    by_cases q : bt j v = 0
    · simp [q]
    · simp [q]
  rw [e]
theorem cAsk (x : Rt a h σ) (g : Gb a) : fX9_ask h σ = some (fI (ask a), σ) := by
  have hV := gb_V g
  have hm := mny_le g
  unfold fX9_ask ask
  rw [cMany x g, bi_some, lt_eq, lim1, li0]
  refine (loop0 (fun n i (s : Nat × Nat) => fX9_ask_14 h n (fun σ_8 x3_8 => some (x3_8, σ_8)) σ (nI (mny a)) (fI s.1) (nI s.2) (nI i)) (a 0 3) (by omega) (fun s => some (fI s.1, σ)) (fun i s => s.2 ≤ 16) (fun v (s : Nat × Nat) => if (if wth a v ≤ mny a - wth a v then mny a - wth a v else wth a v) < s.2 then (v + 1, if wth a v ≤ mny a - wth a v then mny a - wth a v else wth a v) else s) ?_ ?_ ?_ (0, mny a) hm).1
  · intro n s hs
    simp only [fX9_ask_14_s]
    unfold fX9_ask_14b
    rw [hl_V x.1]
    simp (disch := omega) only [lt_eq, bi_some, bv_some, ↓lim1, pk_m1f, fI_add1, li0, li1, li2, li3, li4, li5, li6, li7, li8, li9, li10, li12, li15, li16, li19, li20, li26, li30, li31, li32, li48, li57, li59, li60, li64, li99, li100, li128, li240, li255, li480, li999, li1000, li9000, li9999, liF, nI_add, sb_nI, pk_mul, dv_nI, cl_nI, inbT, le_nI, lt_nI, eq_nI, fI_le, fI_eq, st_ne, st_at, iT, iF, Nat.zero_add, Nat.add_zero, not_true_eq_false, not_false_eq_true, true_and, and_true, false_and, and_false, or_true, true_or, or_false, false_or, Nat.reduceEqDiff, Nat.reduceLeDiff, Nat.reduceLT, Nat.reduceAdd, Nat.reduceSub, Nat.reduceMul, Nat.reduceDiv, Nat.reduceMod, ↓reduceIte, Nat.le_refl]
  · intro n i s hi hs
    have hw := wth_le a i
    simp only [fX9_ask_14_s]
    unfold fX9_ask_14b fX9_ask_59
    rw [hl_V x.1, sh_nI (show i < 8 by omega), cWith x g (show i < 4 by omega), bi_some, sb_nI hw]
    have em : (if nI (wth a i) < nI (mny a - wth a i) then nI (mny a - wth a i) else nI (wth a i)) = nI (if wth a i ≤ mny a - wth a i then mny a - wth a i else wth a i) := by
      simp only [show (nI (wth a i) < nI (mny a - wth a i)) = (wth a i < mny a - wth a i) from lt_nI (by omega) (by omega)]
      by_cases q : wth a i < mny a - wth a i
      · rw [if_pos q, if_pos (by omega)]
      · rw [if_neg q]
        by_cases z : wth a i ≤ mny a - wth a i
        · rw [if_pos z]; exact congrArg nI (by omega)
        · rw [if_neg z]
    rw [em]
    have hW : (if wth a i ≤ mny a - wth a i then mny a - wth a i else wth a i) ≤ 16 := by split <;> omega
    generalize (if wth a i ≤ mny a - wth a i then mny a - wth a i else wth a i) = W at hW ⊢
    simp (disch := omega) only [lt_eq, bi_some, bv_some, ↓lim1, pk_m1f, fI_add1, li0, li1, li2, li3, li4, li5, li6, li7, li8, li9, li10, li12, li15, li16, li19, li20, li26, li30, li31, li32, li48, li57, li59, li60, li64, li99, li100, li128, li240, li255, li480, li999, li1000, li9000, li9999, liF, nI_add, sb_nI, pk_mul, dv_nI, cl_nI, inbT, le_nI, lt_nI, eq_nI, fI_le, fI_eq, st_ne, st_at, iT, iF, Nat.zero_add, Nat.add_zero, not_true_eq_false, not_false_eq_true, true_and, and_true, false_and, and_false, or_true, true_or, or_false, false_or, Nat.reduceEqDiff, Nat.reduceLeDiff, Nat.reduceLT, Nat.reduceAdd, Nat.reduceSub, Nat.reduceMul, Nat.reduceDiv, Nat.reduceMod, ↓reduceIte, show ¬ a 0 3 ≤ i by omega]
    by_cases q : W < s.2
    · rw [if_neg (by omega), if_pos q, fI_s]
    · rw [if_pos (by omega), if_neg q]
  · intro i s hi hs
    have hw := wth_le a i
    have hW : (if wth a i ≤ mny a - wth a i then mny a - wth a i else wth a i) ≤ 16 := by split <;> omega
    generalize (if wth a i ≤ mny a - wth a i then mny a - wth a i else wth a i) = W at hW ⊢
    show (if W < s.2 then (i + 1, W) else s).2 ≤ 16
    split
    · exact hW
    · exact hs
theorem and_m1 (x : Int32) : x &&& fI 0 = x := by
  apply Int32.toBitVec_inj.mp
  rw [Int32.toBitVec_and, show (fI 0).toBitVec = BitVec.allOnes 32 by decide, BitVec.and_allOnes]
theorem ieF_E (a : Ab) (E : Int32) : ∀ (d i : Nat) (x : Int32), fo (ieF a) d i (E &&& x) = E &&& fo (ieF a) d i x := by
  intro d
  induction d with
  | zero => intro i x; rfl
  | succ d ih =>
    intro i x
    show fo (ieF a) d (i + 1) (ieF a i (E &&& x)) = E &&& fo (ieF a) d (i + 1) (ieF a i x)
    rw [← ih (i + 1) (ieF a i x)]
    congr 1
    unfold ieF
    rw [Int32.and_assoc]
theorem ie_has (a : Ab) (N : Nat) (x : Int32) {s : Nat} (hs : s < N) (hm : mb a s ≠ 0) : fo (ieF a) N 0 x &&& nI s = fo (ieF a) N 0 x := by
  have := fo_inv (fun i y => s < i → y &&& nI s = y) (f := ieF a) N 0 x (fun c => by omega) (by
    intro j y h1 h2 h3 c
    unfold ieF
    rcases (show s < j ∨ s = j by omega) with q | q
    · have := h3 q
      rw [Int32.and_assoc, Int32.and_comm _ (nI s), ← Int32.and_assoc, this]
    · rw [← q, if_neg hm, Int32.and_assoc, Int32.and_self])
  rw [Nat.zero_add] at this
  exact this hs
theorem mny_some (a : Ab) (h : mny a ≠ 0) : ∃ s, s < 2 ^ a 0 3 ∧ mb a s ≠ 0 := by
  apply Classical.byContradiction
  intro c
  apply h
  have := fo_inv (fun i n => n = 0) (f := fun set n => n + mb a set) (2 ^ a 0 3) 0 0 rfl (by
    intro j n h1 h2 h3
    show n + mb a j = 0
    rcases Nat.eq_zero_or_pos (mb a j) with q | q
    · omega
    · exact absurd ⟨j, by omega, by omega⟩ c)
  exact this
theorem mb_none (a : Ab) (h : mny a = 0) : ∀ s, s < 2 ^ a 0 3 → mb a s = 0 := by
  intro s hs
  have := fo_inv (fun i n => s < i → mb a s ≤ n) (f := fun set n => n + mb a set) (2 ^ a 0 3) 0 0 (fun c => by omega) (by
    intro j n h1 h2 h3 c
    show mb a s ≤ n + mb a j
    rcases (show s < j ∨ s = j by omega) with q | q
    · have := h3 q; omega
    · rw [q]; omega)
  rw [Nat.zero_add] at this
  have := this hs
  have e : fo (fun set n => n + mb a set) (2 ^ a 0 3) 0 0 = mny a := rfl
  omega
theorem cIne (x : Rt a h σ) (g : Gb a) : fX9_inEach h σ = some (ine a, σ) := by
  have hV := gb_V g
  have hS := sts_le g
  unfold fX9_inEach
  rw [lt_eq, lim1, li0]
  have key := (loop0 (fun n i (y : Int32) => fX9_inEach_4 h n (fun σ_8 x2_8 => some (x2_8, σ_8)) σ y (nI i)) (sts a) (by omega) (fun y => some (y, σ)) (fun _ _ => True) (ieF a) ?_ ?_ (fun _ _ _ _ => trivial) (fI 0) trivial).1
  · rw [key]
    congr 2
    unfold ine
    by_cases q : mny a = 0
    · rw [if_pos q]
      exact fo_id _ _ _ (fun j b h1 h2 => by
        obtain ⟨c1, c2⟩ := sts_in (show j < sts a by omega)
        unfold ieF
        rw [if_pos (mb_none a q j c2), and_m1])
    · obtain ⟨s, s1, s2⟩ := mny_some a q
      rw [if_neg q]
      have h1 : a 0 1 ≠ 0 := fun c => by
        apply s2
        unfold mb
        rw [if_pos c, mbl_0]
      have e : sts a = 2 ^ a 0 3 := by unfold sts; rw [if_neg h1]
      rw [e]
      have eE : nI (2 ^ a 0 3) - nI 1 = (nI (2 ^ a 0 3) - nI 1) &&& fI 0 := (and_m1 _).symm
      rw [eE, ieF_E]
      have hh := ie_has a (2 ^ a 0 3) (fI 0) s1 s2
      have hin := ev_in (show a 0 3 ≤ 7 by omega) s1
      rw [← hh, ← Int32.and_assoc, Int32.and_comm (nI (2 ^ a 0 3) - nI 1), Int32.and_assoc, Int32.and_comm (nI (2 ^ a 0 3) - nI 1), hin]
  · intro n y _
    simp only [fX9_inEach_4_s]
    unfold fX9_inEach_4b
    rw [cSets x g, bi_some, if_pos (Int32.le_refl _)]
  · intro n i y hi _
    obtain ⟨h1, h2⟩ := sts_in hi
    have hm := mb_01 a i
    simp only [fX9_inEach_4_s]
    unfold fX9_inEach_4b fX9_inEach_24 ieF
    rw [cSets x g, bi_some, cFits x g h1 h2, bi_some]
    simp (disch := omega) only [lt_eq, bi_some, bv_some, ↓lim1, pk_m1f, fI_add1, li0, li1, li2, li3, li4, li5, li6, li7, li8, li9, li10, li12, li15, li16, li19, li20, li26, li30, li31, li32, li48, li57, li59, li60, li64, li99, li100, li128, li240, li255, li480, li999, li1000, li9000, li9999, liF, nI_add, sb_nI, pk_mul, dv_nI, cl_nI, inbT, le_nI, lt_nI, eq_nI, fI_le, fI_eq, st_ne, st_at, iT, iF, Nat.zero_add, Nat.add_zero, not_true_eq_false, not_false_eq_true, true_and, and_true, false_and, and_false, or_true, true_or, or_false, false_or, Nat.reduceEqDiff, Nat.reduceLeDiff, Nat.reduceLT, Nat.reduceAdd, Nat.reduceSub, Nat.reduceMul, Nat.reduceDiv, Nat.reduceMod, ↓reduceIte, show ¬ sts a ≤ i by omega]
    rcases (show mb a i = 0 ∨ mb a i = 1 by omega) with z | z
    · rw [z, if_pos rfl, if_pos rfl, and_m1]
    · rw [z, if_neg (by decide), if_neg (by decide)]
end Ret
theorem cJudge {a : Ab} {h : Nat} {σ : Sg} (x : Cs a h (a 4) σ) (b : BoC (a 5 5) (a 9) (a 10) σ) (g : Gb a) : fX1_firstFalse 13 σ = some (fI (jdg a (a 5 5) 0), σ) := by
  have hB := gb_booked g
  have hP := gb_P g
  have key : ∀ (d k fu : Nat), k + d = a 5 5 → d < fu → fX1_firstFalse_2 13 fu (fun σ_7 => some ((-1), σ_7)) σ (nI k) = some (fI (jdg a d k), σ) := by
    intro d
    induction d with
    | zero =>
      intro k fu e1 e2
      cases fu with
      | zero => omega
      | succ fu =>
        rw [fX1_firstFalse_2_s]
        unfold fX1_firstFalse_2b jdg
        rw [b.1]
        simp (disch := omega) only [lt_eq, bi_some, bv_some, ↓lim1, pk_m1f, fI_add1, li0, li1, li2, li3, li4, li5, li6, li7, li8, li9, li10, li12, li15, li16, li19, li20, li26, li30, li31, li32, li48, li57, li59, li60, li64, li99, li100, li128, li240, li255, li480, li999, li1000, li9000, li9999, liF, nI_add, sb_nI, pk_mul, dv_nI, cl_nI, inbT, le_nI, lt_nI, eq_nI, fI_le, fI_eq, st_ne, st_at, iT, iF, Nat.zero_add, Nat.add_zero, not_true_eq_false, not_false_eq_true, true_and, and_true, false_and, and_false, or_true, true_or, or_false, false_or, Nat.reduceEqDiff, Nat.reduceLeDiff, Nat.reduceLT, Nat.reduceAdd, Nat.reduceSub, Nat.reduceMul, Nat.reduceDiv, Nat.reduceMod, ↓reduceIte, show a 5 5 ≤ k by omega]
    | succ d ih =>
      intro k fu e1 e2
      cases fu with
      | zero => omega
      | succ fu =>
        have hk : k < a 5 5 := by omega
        have gb := g.2.2.2.2.2.2.2.1 k hk
        have hh := wc_harm (gb_w g) gb.1
        rw [fX1_firstFalse_2_s]
        unfold fX1_firstFalse_2b jdg
        rw [b.1]
        have l13 : ln 13 = 7 := ln_13
        simp (disch := omega) only [lt_eq, bi_some, bv_some, ↓lim1, pk_m1f, fI_add1, li0, li1, li2, li3, li4, li5, li6, li7, li8, li9, li10, li12, li15, li16, li19, li20, li26, li30, li31, li32, li48, li57, li59, li60, li64, li99, li100, li128, li240, li255, li480, li999, li1000, li9000, li9999, liF, nI_add, sb_nI, pk_mul, dv_nI, cl_nI, inbT, le_nI, lt_nI, eq_nI, fI_le, fI_eq, st_ne, st_at, iT, iF, Nat.zero_add, Nat.add_zero, not_true_eq_false, not_false_eq_true, true_and, and_true, false_and, and_false, or_true, true_or, or_false, false_or, Nat.reduceEqDiff, Nat.reduceLeDiff, Nat.reduceLT, Nat.reduceAdd, Nat.reduceSub, Nat.reduceMul, Nat.reduceDiv, Nat.reduceMod, ↓reduceIte, show ¬ a 5 5 ≤ k by omega, (b.2 k hk).1, (b.2 k hk).2, l13, cs_harm x gb.1]
        by_cases q : a 4 (19 + a 9 k) = a 10 k
        · rw [if_pos q, if_pos q]
          exact ih (k + 1) fu (by omega) (by omega)
        · rw [if_neg q, if_neg q, fI_s]
  unfold fX1_firstFalse
  exact key (a 5 5) 0 FU (by omega) (by have := FU_ge; omega)
