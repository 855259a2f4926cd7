/-! the class: years -/
theorem tk_set {s E T : Int32} (h : s &&& E = s) : s &&& ((E &&& (T ^^^ -1)) ^^^ -1) = s &&& T := by
  apply Int32.toBitVec_inj.mp
  have h' := congrArg Int32.toBitVec h
  have e : (-1 : Int32).toBitVec = BitVec.allOnes 32 := by decide
  simp only [Int32.toBitVec_and, Int32.toBitVec_xor, e] at h' ⊢
  apply BitVec.eq_of_getLsbD_eq
  intro i hi
  have hb := congrArg (fun b => b.getLsbD i) h'
  simp only [BitVec.getLsbD_and, BitVec.getLsbD_xor, BitVec.getLsbD_allOnes, hi, decide_true] at hb ⊢
  revert hb
  cases s.toBitVec.getLsbD i <;> cases E.toBitVec.getLsbD i <;> cases T.toBitVec.getLsbD i <;> simp
theorem ev_all : ∀ P : Fin 8, ∀ s : Fin 128, s.val < 2 ^ P.val → nI s.val &&& (nI (2 ^ P.val) - nI 1) = nI s.val := by decide +kernel
theorem ev_in {P s : Nat} (hP : P ≤ 7) (hs : s < 2 ^ P) : nI s &&& (nI (2 ^ P) - nI 1) = nI s := ev_all ⟨P, by omega⟩ ⟨s, Nat.lt_of_lt_of_le hs (two_pow hP)⟩ hs
theorem ofV_pow {P : Nat} (hP : P ≤ 7) (home : Nat → Nat) (v : Nat) : ofV P home v < 2 ^ P := by
  have h0 : 0 < 2 ^ P := Nat.pow_pos (by omega)
  have := fo_inv (fun i s => s < 2 ^ P) (f := fun p s => if home p = v then ins s p else s) P 0 0 h0 (by
    intro j s h1 h2 h3
    show (if home j = v then ins s j else s) < 2 ^ P
    split
    · exact ins_pow h3 (by omega) hP
    · exact h3)
  exact this
/-- what a village can take -/
def ct (its told bear : Nat) : Nat := if its = 0 then 0 else if nI its &&& nI told = nI 0 then bear else 0
theorem tkn_ct (its told bear o : Nat) : tkn its told bear o = if ct its told bear ≤ o then ct its told bear else o := by
  unfold tkn ct
  repeat' split
  all_goals omega
/-- who is untold where t are told -/
def unt (a : Ab) (t : Nat) : Int32 := (nI (2 ^ a 0 4) - nI 1) &&& (nI t ^^^ fI 0)
theorem unt_0 (a : Ab) : unt a 0 = nI (2 ^ a 0 4) - nI 1 := by
  unfold unt
  rw [show nI 0 ^^^ fI 0 = -1 by decide]
  apply Int32.toBitVec_inj.mp
  rw [Int32.toBitVec_and, show (-1 : Int32).toBitVec = BitVec.allOnes 32 by decide, BitVec.and_allOnes]
theorem ct_le (its told bear : Nat) : ct its told bear ≤ bear := by
  unfold ct
  repeat' split
  all_goals omega
theorem cCan {a : Ab} {h : Nat} {w : Nat → Nat} {σ : Sg} (x : Cs a h w σ) (g : Gb a) (t : Nat) {v : Nat} (hv : v < a 0 3) : fX2_canTake σ (nI v) (unt a t) = some (nI (ct (ofV (a 0 4) (a 2) v) t (w (26 + v))), σ) := by
  have hV := gb_V g
  have hP := gb_P g
  have ho := ofV_pow hP (a 2) v
  have hl := ofV_lt hP (a 2) v
  unfold fX2_canTake fX2_canTake_34 ct
  have ec : (nI v).toNatClampNeg = v := cl_nI (by omega)
  rw [hl_gk x.1, if_pos (inb_nI (show v < 4 by omega) (by omega)), if_pos (inb_nI (show v < 4 by omega) (by omega)), ec, hl_people x.1 hv, lt_eq, cs_bear x hv]
  generalize ofV (a 0 4) (a 2) v = s at ho hl ⊢
  have e1 : nI s &&& (unt a t ^^^ -1) = nI s &&& nI t := by
    unfold unt
    rw [fI_0]
    exact tk_set (ev_in hP ho)
  rw [e1]
  by_cases q : s = 0
  · rw [if_pos (show nI s = 0 by rw [q]; rfl), if_pos q]; rfl
  · rw [if_neg (show ¬ nI s = 0 by rw [li0, eq_nI (by omega) (by omega)]; exact q), if_neg q]
    by_cases z : nI s &&& nI t = nI 0
    · rw [if_pos (show nI s &&& nI t = 0 from z), if_pos z]
    · rw [if_neg (show ¬ nI s &&& nI t = 0 from z), if_neg z]; rfl
theorem cTaken {a : Ab} {h : Nat} {w : Nat → Nat} {σ : Sg} (x : Cs a h w σ) (g : Gb a) (hw : Wc (a 0 1) (a 0 3) (a 0 4) w) {v o : Nat} (hv : v < a 0 3) (ho : o ≤ 9999) : fX2_taken σ (nI v) (nI o) = some (nI (tkn (ofV (a 0 4) (a 2) v) (w 4) (w (26 + v)) o), σ) := by
  have hb := wc_bear hw hv
  have hc := ct_le (ofV (a 0 4) (a 2) v) (w 4) (w (26 + v))
  unfold fX2_taken
  rw [cUntold x g, bi_some, show (nI (2 ^ a 0 4) - nI 1) &&& (nI (w 4) ^^^ fI 0) = unt a (w 4) from rfl, cCan x g _ hv, bi_some, mn_nI (by omega) (by omega), ← tkn_ct]
theorem cHurt {a : Ab} {σ : Sg} (hP : a 0 4 ≤ 7) {w : Nat → Nat} {p y : Nat} (hp : p < a 0 4) (hh : w (19 + p) ≤ 9999) (hy : y ≤ 9999) : fX10_hurt 11 (sw a σ w) (nI p) (nI y) = some (sw a σ (hrt w p y)) := by
  unfold fX10_hurt hrt
  have ec : (nI p).toNatClampNeg = p := cl_nI (by omega)
  rw [if_pos (inb_nI (show p < 7 by omega) (by omega)), if_pos (inb_nI (show p < 7 by omega) (by omega)), ec, show sw a σ w (11 + 2) p = nI (w (19 + p)) from sw_harm hp, nI_add, mn99' (by omega), show st (sw a σ w) (11 + 2) p (nI (if w (19 + p) + y ≤ 9999 then w (19 + p) + y else 9999)) = _ from sw_st_harm hP hp _, lt_eq]
theorem bc_all : ∀ s : Fin 128, fJ6_bitCount_0f7a4 (fun _ _ => 0) (nI s.val) = some (nI (cnt s.val), fun _ _ => 0) → True := fun _ _ => trivial
def bcI (x0 : Int32) : Int32 :=
  let x0_1 := x0 - ((x0.toUInt32 >>> ((1 : Int32).toUInt32 &&& Int32.toUInt32 31)).toInt32 &&& 1431655765)
  let x0_2 := (x0_1 &&& 858993459) + ((x0_1.toUInt32 >>> ((2 : Int32).toUInt32 &&& Int32.toUInt32 31)).toInt32 &&& 858993459)
  let x0_3 := (x0_2 + (x0_2.toUInt32 >>> ((4 : Int32).toUInt32 &&& Int32.toUInt32 31)).toInt32) &&& 252645135
  let x0_4 := x0_3 + (x0_3.toUInt32 >>> ((8 : Int32).toUInt32 &&& Int32.toUInt32 31)).toInt32
  let x0_5 := x0_4 + (x0_4.toUInt32 >>> ((16 : Int32).toUInt32 &&& Int32.toUInt32 31)).toInt32
  x0_5 &&& 63
theorem bcI_all : ∀ s : Fin 128, bcI (nI s.val) = nI (cnt s.val) := by decide +kernel
theorem cBits (σ : Sg) {s : Nat} (hs : s < 128) : fJ6_bitCount_0f7a4 σ (nI s) = some (nI (cnt s), σ) := by
  rw [← bcI_all ⟨s, hs⟩]
  unfold fJ6_bitCount_0f7a4 bcI
  rw [lt_eq, lt_eq, lt_eq, lt_eq, lt_eq]
theorem yrh_none {P : Nat} {home : Nat → Nat} {v t : Nat} {w : Nat → Nat} (h : ∀ p, p < P → home p ≠ v) : yrh P home v t w = w := by
  have := fo_inv (fun i w' => w' = w) (f := fun p w => if home p = v then hrt w p (t / cnt (ofV P home v)) else w) P 0 w rfl (by
    intro j w' h1 h2 h3
    show (if home j = v then hrt w' j (t / cnt (ofV P home v)) else w') = w
    rw [if_neg (h j (by omega))]; exact h3)
  exact this
theorem cHurtV {a : Ab} {h : Nat} {σ : Sg} (x : Hl a h σ) (g : Gb a) {w : Nat → Nat} (hw : Wc (a 0 1) (a 0 3) (a 0 4) w) {v t : Nat} (hv : v < a 0 3) (ht : t ≤ 9999) : fX2_hurtVillage (sw a σ w) (nI v) (nI t) = some (sw a σ (yrh (a 0 4) (a 2) v t w)) := by
  have hV := gb_V g
  have hP := gb_P g
  have hl := ofV_lt hP (a 2) v
  have ec : (nI v).toNatClampNeg = v := cl_nI (by omega)
  have hcl := cnt_le hl
  unfold fX2_hurtVillage
  rw [hl_gk (x.sw w), if_pos (inb_nI (show v < 4 by omega) (by omega)), ec, hl_people (x.sw w) hv, cBits _ hl, bi_some]
  by_cases q : cnt (ofV (a 0 4) (a 2) v) = 0
  · rw [if_pos (show nI (cnt (ofV (a 0 4) (a 2) v)) = 0 by rw [q]; rfl), yrh_none (fun p hp c => by
      have hb : bt (ofV (a 0 4) (a 2) v) p = 1 := by rw [ofV_bt hP (a 2) v hp, if_pos c]
      have := cnt_pos hl (show p < 7 by omega) hb
      omega)]
  · have qn : ¬ nI (cnt (ofV (a 0 4) (a 2) v)) = 0 := by rw [li0, eq_nI (by omega) (by omega)]; exact q
    have hd : t / cnt (ofV (a 0 4) (a 2) v) ≤ t := Nat.div_le_self _ _
    rw [if_neg qn, if_pos qn, dv_nI (by omega) (by omega) (by omega), lt_eq, li0]
    refine (loop0 (fun n i w => fX2_hurtVillage_26 n (fun σ_14 => some σ_14) (sw a σ w) (nI v) (nI (t / cnt (ofV (a 0 4) (a 2) v))) (nI i)) (a 0 4) (by omega) (fun w => some (sw a σ w)) (fun i w => Wc (a 0 1) (a 0 3) (a 0 4) w) (fun p w => if a 2 p = v then hrt w p (t / cnt (ofV (a 0 4) (a 2) v)) else w) ?_ ?_ ?_ w hw).1
    · intro n w hw
      simp only [fX2_hurtVillage_26_s]
      unfold fX2_hurtVillage_26b
      rw [hl_gk (x.sw w), hl_P (x.sw w)]
      simp (disch := omega) only [lt_eq, bi_some, bv_some, ↓lim1, pk_m1f, fI_add1, li0, li1, li2, li3, li4, li5, li6, li7, li8, li9, li10, li12, li15, li16, li19, li20, li26, li30, li31, li32, li48, li57, li59, li60, li64, li99, li100, li128, li240, li255, li480, li999, li1000, li9000, li9999, liF, nI_add, sb_nI, pk_mul, dv_nI, cl_nI, inbT, le_nI, lt_nI, eq_nI, fI_le, fI_eq, st_ne, st_at, iT, iF, Nat.zero_add, Nat.add_zero, not_true_eq_false, not_false_eq_true, true_and, and_true, false_and, and_false, or_true, true_or, or_false, false_or, Nat.reduceEqDiff, Nat.reduceLeDiff, Nat.reduceLT, Nat.reduceAdd, Nat.reduceSub, Nat.reduceMul, Nat.reduceDiv, Nat.reduceMod, ↓reduceIte, Nat.le_refl]
    · intro n i w hi hw
      have hm := gb_home g hi
      simp only [fX2_hurtVillage_26_s]
      unfold fX2_hurtVillage_26b fX2_hurtVillage_63
      rw [hl_gk (x.sw w), hl_gk (x.sw w), hl_P (x.sw w)]
      simp (disch := omega) only [lt_eq, bi_some, bv_some, ↓lim1, pk_m1f, fI_add1, li0, li1, li2, li3, li4, li5, li6, li7, li8, li9, li10, li12, li15, li16, li19, li20, li26, li30, li31, li32, li48, li57, li59, li60, li64, li99, li100, li128, li240, li255, li480, li999, li1000, li9000, li9999, liF, nI_add, sb_nI, pk_mul, dv_nI, cl_nI, inbT, le_nI, lt_nI, eq_nI, fI_le, fI_eq, st_ne, st_at, iT, iF, Nat.zero_add, Nat.add_zero, not_true_eq_false, not_false_eq_true, true_and, and_true, false_and, and_false, or_true, true_or, or_false, false_or, Nat.reduceEqDiff, Nat.reduceLeDiff, Nat.reduceLT, Nat.reduceAdd, Nat.reduceSub, Nat.reduceMul, Nat.reduceDiv, Nat.reduceMod, ↓reduceIte, show ¬ a 0 4 ≤ i by omega, hl_home (x.sw w) hi, cHurt hP hi (wc_harm hw hi) (show t / cnt (ofV (a 0 4) (a 2) v) ≤ 9999 by omega)]
      by_cases z : a 2 i = v
      · rw [if_pos z, if_pos z]
      · rw [if_neg z, if_neg z]
    · intro i w hi hw
      show Wc _ _ _ (if a 2 i = v then hrt w i (t / cnt (ofV (a 0 4) (a 2) v)) else w)
      by_cases z : a 2 i = v
      · rw [if_pos z]; exact hw.hrt hP hV hi
      · rw [if_neg z]; exact hw
theorem cYear {a : Ab} {h : Nat} {σ : Sg} (x : Hl a h σ) (g : Gb a) {w : Nat → Nat} (hw : Wc (a 0 1) (a 0 3) (a 0 4) w) (hy : w 1 ≤ 100000) : fX2_passYear (sw a σ w) = some (sw a σ (yr a w)) := by
  have hV := gb_V g
  have hP := gb_P g
  have h0 := gb_p0 g
  unfold fX2_passYear
  have l1 := fun kx => loop0 (fun n i w => fX2_passYear_2 n kx (sw a σ w) (nI i)) (a 0 4) (by omega) (fun w => kx (sw a σ w)) (fun i w => Wc (a 0 1) (a 0 3) (a 0 4) w) (fun p w => va_up (hrt w p (w (12 + p))) (12 + p) 0) (by
      intro n w hw
      simp only [fX2_passYear_2_s]
      unfold fX2_passYear_2b
      rw [hl_gk (x.sw w), hl_P (x.sw w)]
      simp (disch := omega) only [lt_eq, bi_some, bv_some, ↓lim1, pk_m1f, fI_add1, li0, li1, li2, li3, li4, li5, li6, li7, li8, li9, li10, li12, li15, li16, li19, li20, li26, li30, li31, li32, li48, li57, li59, li60, li64, li99, li100, li128, li240, li255, li480, li999, li1000, li9000, li9999, liF, nI_add, sb_nI, pk_mul, dv_nI, cl_nI, inbT, le_nI, lt_nI, eq_nI, fI_le, fI_eq, st_ne, st_at, iT, iF, Nat.zero_add, Nat.add_zero, not_true_eq_false, not_false_eq_true, true_and, and_true, false_and, and_false, or_true, true_or, or_false, false_or, Nat.reduceEqDiff, Nat.reduceLeDiff, Nat.reduceLT, Nat.reduceAdd, Nat.reduceSub, Nat.reduceMul, Nat.reduceDiv, Nat.reduceMod, ↓reduceIte, Nat.le_refl]) (by
      intro n i w hi hw
      have h12 := wc_fate hw hi
      have h19 := wc_harm hw hi
      simp only [fX2_passYear_2_s]
      unfold fX2_passYear_2b
      rw [hl_gk (x.sw w), hl_P (x.sw w)]
      simp (disch := omega) only [lt_eq, bi_some, bv_some, ↓lim1, pk_m1f, fI_add1, li0, li1, li2, li3, li4, li5, li6, li7, li8, li9, li10, li12, li15, li16, li19, li20, li26, li30, li31, li32, li48, li57, li59, li60, li64, li99, li100, li128, li240, li255, li480, li999, li1000, li9000, li9999, liF, nI_add, sb_nI, pk_mul, dv_nI, cl_nI, inbT, le_nI, lt_nI, eq_nI, fI_le, fI_eq, st_ne, st_at, iT, iF, Nat.zero_add, Nat.add_zero, not_true_eq_false, not_false_eq_true, true_and, and_true, false_and, and_false, or_true, true_or, or_false, false_or, Nat.reduceEqDiff, Nat.reduceLeDiff, Nat.reduceLT, Nat.reduceAdd, Nat.reduceSub, Nat.reduceMul, Nat.reduceDiv, Nat.reduceMod, ↓reduceIte, show ¬ a 0 4 ≤ i by omega, sw_fate hi, cHurt hP hi h19 (show w (12 + i) ≤ 9999 by omega), sw_st_fate hP hi]) (by
      intro i w hi hw
      exact (hw.hrt hP hV hi).fate hP hV hi (by omega)) w hw
  have w1 := (l1 (fun _ => none)).2
  have l2 := fun kx => loop0 (fun n i w => fX2_passYear_48 n kx (sw a σ w) (nI i)) (a 0 3) (by omega) (fun w => kx (sw a σ w)) (fun i w => Wc (a 0 1) (a 0 3) (a 0 4) w) (fun v w => yrv (a 0 4) (a 2) v w) (by
      intro n w hw
      simp only [fX2_passYear_48_s]
      unfold fX2_passYear_48b
      rw [hl_gk (x.sw w), hl_V (x.sw w)]
      simp (disch := omega) only [lt_eq, bi_some, bv_some, ↓lim1, pk_m1f, fI_add1, li0, li1, li2, li3, li4, li5, li6, li7, li8, li9, li10, li12, li15, li16, li19, li20, li26, li30, li31, li32, li48, li57, li59, li60, li64, li99, li100, li128, li240, li255, li480, li999, li1000, li9000, li9999, liF, nI_add, sb_nI, pk_mul, dv_nI, cl_nI, inbT, le_nI, lt_nI, eq_nI, fI_le, fI_eq, st_ne, st_at, iT, iF, Nat.zero_add, Nat.add_zero, not_true_eq_false, not_false_eq_true, true_and, and_true, false_and, and_false, or_true, true_or, or_false, false_or, Nat.reduceEqDiff, Nat.reduceLeDiff, Nat.reduceLT, Nat.reduceAdd, Nat.reduceSub, Nat.reduceMul, Nat.reduceDiv, Nat.reduceMod, ↓reduceIte, Nat.le_refl]) (by
      intro n i w hi hw
      have ho := wc_owed hw
      have hb := wc_bear hw hi
      have htk := tkn_le (ofV (a 0 4) (a 2) i) (w 4) (w (26 + i)) (w 2)
      simp only [fX2_passYear_48_s]
      unfold fX2_passYear_48b yrv
      rw [hl_gk (x.sw w), hl_V (x.sw w), sw_owed, cTaken (Cs.sw x w) g hw hi ho, bi_some]
      generalize tkn (ofV (a 0 4) (a 2) i) (w 4) (w (26 + i)) (w 2) = T at htk ⊢
      have e2 : yrh (a 0 4) (a 2) i T w 2 = w 2 := yrh_keep _ _ _ _ (by omega)
      rw [cHurtV x g hw hi (show T ≤ 9999 by omega), bv_some, sw_owed, e2, sb_nI (by omega), sw_st_owed]
      simp (disch := omega) only [lt_eq, bi_some, bv_some, ↓lim1, pk_m1f, fI_add1, li0, li1, li2, li3, li4, li5, li6, li7, li8, li9, li10, li12, li15, li16, li19, li20, li26, li30, li31, li32, li48, li57, li59, li60, li64, li99, li100, li128, li240, li255, li480, li999, li1000, li9000, li9999, liF, nI_add, sb_nI, pk_mul, dv_nI, cl_nI, inbT, le_nI, lt_nI, eq_nI, fI_le, fI_eq, st_ne, st_at, iT, iF, Nat.zero_add, Nat.add_zero, not_true_eq_false, not_false_eq_true, true_and, and_true, false_and, and_false, or_true, true_or, or_false, false_or, Nat.reduceEqDiff, Nat.reduceLeDiff, Nat.reduceLT, Nat.reduceAdd, Nat.reduceSub, Nat.reduceMul, Nat.reduceDiv, Nat.reduceMod, ↓reduceIte, show ¬ a 0 3 ≤ i by omega]) (by
      intro i w hi hw
      have ho := wc_owed hw
      have hb := wc_bear hw hi
      have htk := tkn_le (ofV (a 0 4) (a 2) i) (w 4) (w (26 + i)) (w 2)
      have k : Wc (a 0 1) (a 0 3) (a 0 4) (yrh (a 0 4) (a 2) i (tkn (ofV (a 0 4) (a 2) i) (w 4) (w (26 + i)) (w 2)) w) := fo_inv (fun i w => Wc (a 0 1) (a 0 3) (a 0 4) w) (a 0 4) 0 w hw (by
        intro j w' h1 h2 h3
        show Wc _ _ _ (if a 2 j = i then hrt w' j _ else w')
        by_cases z : a 2 j = i
        · rw [if_pos z]; exact h3.hrt hP hV (by omega)
        · rw [if_neg z]; exact h3)
      exact k.owed hP hV (by omega)) (yr1 (a 0 4) w) w1
  have l1' : ∀ kx, fX2_passYear_2 FU kx (sw a σ w) 0 = kx (sw a σ (yr1 (a 0 4) w)) := fun kx => (l1 kx).1
  have l2' : ∀ kx, fX2_passYear_48 FU kx (sw a σ (yr1 (a 0 4) w)) 0 = kx (sw a σ (yr2 (a 0 3) (a 0 4) (a 2) (yr1 (a 0 4) w))) := fun kx => (l2 kx).1
  rw [l1', l2']
  have e1 : yr2 (a 0 3) (a 0 4) (a 2) (yr1 (a 0 4) w) 1 = w 1 := by
    have := yr_yrs a w
    unfold yr yre at this
    rw [va_up_ne _ _ (by omega), va_up_ne _ _ (by omega), va_up_self] at this
    omega
  unfold yr yre
  generalize yr2 (a 0 3) (a 0 4) (a 2) (yr1 (a 0 4) w) = W at e1 ⊢
  rw [lt_eq, show (0 : Int32) = nI 0 from li0, sw_st_told, lt_eq, sw_st_went, hl_gk (x.sw _), hl_p0 (x.sw _), sw_st_pat, lt_eq, sw_yrs, li1, va_up_ne _ _ (by omega), va_up_ne _ _ (by omega), va_up_ne _ _ (by omega), nI_add, sw_st_yrs, lt_eq]
  congr 2
  funext k
  unfold va_up
  repeat' split
  all_goals first | rfl | omega
