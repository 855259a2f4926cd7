/-! THE CALLS: what each answers, and what it makes of a -/
def sp_feed (a : Ab) (x : Int32) : Int32 × Ab := if isR 256 x then (if a 5 1 = 240 then (-1000000004, a) else (nI (a 5 1 + 1), va_up (va_up a 6 (va_up (a 6) (a 5 1) (dn x))) 5 (va_up (a 5) 1 (a 5 1 + 1)))) else (-1000000002, a)
def sp_told (a : Ab) (x : Int32) : Int32 :=
  if x = 0 then nI (a 4 0) else if x = 1 then nI (a 0 2) else if x = 2 then nI (a 0 3) else if x = 3 then nI (a 0 4) else if x = 4 then nI (a 5 1) else if x = 5 then nI (a 4 1) else if x = 6 then nI (a 4 2) else if x = 7 then nI (tof (a 0 4) (a 4)) else if x = 8 then (nI (2 ^ a 0 4) - nI 1) &&& (nI (a 4 4) ^^^ fI 0) else if x = 9 then nI (a 4 3) else if x = 10 then nI (bor a) else if x = 11 then fI (mu a 61 0 (a 4)) else if x = 12 then fI (wst (a 0 4) (a 4)) else if x = 13 then nI (a 5 4) else if x = 14 then nI (mny a) else if x = 15 then ine a else if x = 16 then fI (ask a) else if x = 17 then nI (a 5 5) else if x = 18 then nI (a 5 3) else -1000000002
def sp_village (a : Ab) (x y : Int32) : Int32 := if isR (a 0 3) x then (if y = 0 then nI (a 4 (26 + dn x)) else if y = 1 then nI (ofV (a 0 4) (a 2) (dn x)) else if y = 2 then nI (had a (dn x)) else if y = 3 then nI (hof (a 0 4) (a 2) (a 4) (dn x)) else -1000000002) else -1000000001
def sp_tell (a : Ab) (x y : Int32) : Int32 × Ab := if isR (a 0 4) x then (if isR 100 y then (nI (a 4 (12 + dn x)), va_up (remA a) 4 (telW (a 4) (dn x) (dn y))) else (-1000000002, a)) else (-1000000001, a)
def sp_answer (a : Ab) (x y : Int32) : Int32 × Ab := if isR (a 0 4) x ∧ isR (a 0 4) y then (if 0 < a 4 (12 + dn x) ∧ bt (a 4 3) (dn y) = 0 then (nI (brg a (dn y) (a 4 (12 + dn x))).1, va_up (remA a) 4 (ansW (a 4) (dn x) (dn y) (brg a (dn y) (a 4 (12 + dn x))).1)) else (-1000000003, a)) else (-1000000001, a)
def sp_wit (a : Ab) (x y : Int32) : Int32 × Ab := if isR (a 0 4) x then (if isR 10 y ∧ ¬ y = 0 then (nI (a 4 (5 + dn x)), va_up (remA a) 4 (va_up (a 4) (5 + dn x) (dn y))) else (-1000000002, a)) else (-1000000001, a)
def sp_bear (a : Ab) (x y : Int32) : Int32 × Ab := if isR (a 0 3) x then (if isR 100 y then (nI (a 4 (26 + dn x)), va_up (remA a) 4 (va_up (a 4) (26 + dn x) (dn y))) else (-1000000002, a)) else (-1000000001, a)
def yrA (a : Ab) : Ab := va_up a 4 (yr a (a 4))
def sp_year (a : Ab) (x : Int32) : Int32 × Ab := if isR 61 x ∧ ¬ x = 0 then (if a 0 1 = 0 then (-1000000003, a) else if a 4 1 ≤ 9000 then (nI (fo (fun _ b => yrA b) (dn x) 0 (remA a) 4 2), fo (fun _ b => yrA b) (dn x) 0 (remA a)) else (-1000000004, a)) else (-1000000002, a)
def sp_undo (a : Ab) : Int32 × Ab := if a 5 3 = 0 then (-1000000003, a) else (nI (a 5 3 - 1), undA a)
def sp_down (a : Ab) (x y z : Int32) : Int32 := if isR (a 0 4) x then (if isR 100 y ∧ isR 2 z then (if z = 0 then nI (brg a (dn x) (dn y)).1 else nI (brg a (dn x) (dn y)).2) else -1000000002) else -1000000001
def sp_best (a : Ab) (x : Int32) : Int32 := if isR 100 x then fI (bst a (dn x)) else -1000000002
def sp_shares (a : Ab) (x y : Int32) : Int32 := if isR (a 0 3) y then (if isR 1000 x then (if lvl (fun lev => sma (a 0 3) (a 4) lev 0) (dn x) 100 0 = 0 then fI 0 else nI (shr (a 0 3) (a 4) (lvl (fun lev => sma (a 0 3) (a 4) lev 0) (dn x) 100 0 - 1) (dn x) (dn y))) else -1000000002) else -1000000001
def sp_dry (x y : Int32) : Int32 := if isR 61 x ∧ isR 101 y then (odd y (dn x)).toInt32 else -1000000002
def sp_returned (a : Ab) (x : Int32) : Int32 × Ab := if isR 1000 x then (if a 0 1 = 0 then (-1000000003, a) else if a 5 4 = 6 then (-1000000004, a) else (nI (a 5 4 + 1), va_up (va_up (va_up a 7 (va_up (a 7) (a 5 4) (dn x))) 8 (fun k => if 4 * a 5 4 ≤ k ∧ k < 4 * a 5 4 + 4 then a 4 (26 + (k - 4 * a 5 4)) else a 8 k)) 5 (va_up (a 5) 4 (a 5 4 + 1)))) else (-1000000002, a)
def sp_write (a : Ab) (x y : Int32) : Int32 × Ab := if isR (a 0 4) x then (if isR 10000 y then (if a 5 5 = 15 then (-1000000004, a) else (nI (a 5 5 + 1), va_up (va_up (va_up a 9 (va_up (a 9) (a 5 5) (dn x))) 10 (va_up (a 10) (a 5 5) (dn y))) 5 (va_up (a 5) 5 (a 5 5 + 1)))) else (-1000000002, a)) else (-1000000001, a)
def sp_tear (a : Ab) : Int32 × Ab := (nI (a 5 4 + a 5 5), va_up a 5 (va_up (va_up (a 5) 4 0) 5 0))
/-- the first entry that is otherwise, and 1 -/
def jdg (a : Ab) : Nat → Nat → Nat
  | 0, _ => 0
  | d + 1, k => if a 4 (19 + a 9 k) = a 10 k then jdg a d (k + 1) else k + 1
def sp_judge (a : Ab) : Int32 := fI (jdg a (a 5 5) 0)
def sp_seed (a : Ab) (x : Int32) : Int32 × Ab := if 0 ≤ x then (nI (a 5 0), va_up a 5 (va_up (a 5) 0 (dn x))) else (-1000000002, a)
def sp_keep (a : Ab) (x : Int32) : Int32 × Ab := if isR 2 x then (1, va_up (va_up a (40 + dn x) (va_up (a 4) 30 (a 5 0))) 5 (va_up (va_up (a 5) (6 + dn x) 1) 3 0)) else (-1000000001, a)
def sp_goBack (a : Ab) (x : Int32) : Int32 × Ab := if isR 2 x then (if a 5 (6 + dn x) = 0 then (-1000000003, a) else (1, va_up (va_up a 4 (a (40 + dn x))) 5 (va_up (va_up (a 5) 0 (a (40 + dn x) 30)) 3 0))) else (-1000000001, a)
/-- a call of the reference does as told -/
def OkM (σ : Sg) (o : Option (Int32 × Sg)) (r : Int32 × Ab) : Prop := ∃ τ, o = some (r.1, τ) ∧ RelM r.2 τ ∧ Fr σ τ
theorem OkM.mk {b : Ab} {σ τ : Sg} {o : Option (Int32 × Sg)} {r : Int32} (e : o = some (r, τ)) (h : RelM b τ) (f : Fr σ τ) : OkM σ o (r, b) := ⟨τ, e, h, f⟩
theorem OkM.same {a : Ab} {σ : Sg} (h : RelM a σ) {o : Option (Int32 × Sg)} {r : Int32} (e : o = some (r, σ)) : OkM σ o (r, a) := ⟨σ, e, h, Fr.rf σ⟩
theorem OkM.sm {a : Ab} {σ τ : Sg} (h : RelM a σ) {o : Option (Int32 × Sg)} {r : Int32} (e : o = some (r, τ)) (s : Sm σ τ) : OkM σ o (r, a) := ⟨τ, e, s.rel h, Fr.of s⟩
theorem dn_n {j : Nat} (h : j < 1000000000) : dn (nI j) = j := nI_clamp (by omega)
theorem M_fault {a : Ab} {σ : Sg} (h : RelM a σ) : OkM σ (fX12_fault σ) (fI (a 5 2), a) := OkM.same h (by unfold fX12_fault; rw [rm_fault h])
theorem gb_len {a : Ab} (g : Gb a) : a 5 1 ≤ 240 := g.2.2.2.1.2.1
theorem M_feed {a : Ab} {σ : Sg} (h : RelM a σ) (g : Gb a) (x : Int32) : OkM σ (fX12_feed σ x) (sp_feed a x) := by
  have hl := gb_len g
  unfold fX12_feed sp_feed
  rw [in_rg (n := 255) σ x (by decide) (by omega), bi_some]
  by_cases q : isR 256 x
  · rw [if_pos q, if_pos q, if_neg (by decide), rm_len h]
    by_cases z : a 5 1 = 240
    · simp (disch := omega) only [lt_eq, bi_some, bv_some, ↓lim1, pk_m1f, fI_add1, li0, li1, li2, li3, li4, li5, li6, li7, li8, li9, li10, li12, li15, li16, li19, li20, li26, li30, li31, li32, li48, li57, li59, li60, li64, li99, li100, li128, li240, li255, li480, li999, li1000, li9000, li9999, liF, nI_add, sb_nI, pk_mul, dv_nI, cl_nI, inbT, le_nI, lt_nI, eq_nI, fI_le, fI_eq, st_ne, st_at, iT, iF, Nat.zero_add, Nat.add_zero, not_true_eq_false, not_false_eq_true, true_and, and_true, false_and, and_false, or_true, true_or, or_false, false_or, Nat.reduceEqDiff, Nat.reduceLeDiff, Nat.reduceLT, Nat.reduceAdd, Nat.reduceSub, Nat.reduceMul, Nat.reduceDiv, Nat.reduceMod, ↓reduceIte, z]
      exact OkM.same h rfl
    · obtain ⟨j, hj, rfl⟩ := ix_of (by omega) q
      rw [dn_n (by omega)]
      have e : st σ 137 (a 5 1) (nI j) 132 10 = nI (a 5 1) := by rw [st_ne (by omega)]; exact rm_len h
      simp (disch := omega) only [lt_eq, bi_some, bv_some, ↓lim1, pk_m1f, fI_add1, li0, li1, li2, li3, li4, li5, li6, li7, li8, li9, li10, li12, li15, li16, li19, li20, li26, li30, li31, li32, li48, li57, li59, li60, li64, li99, li100, li128, li240, li255, li480, li999, li1000, li9000, li9999, liF, nI_add, sb_nI, pk_mul, dv_nI, cl_nI, inbT, le_nI, lt_nI, eq_nI, fI_le, fI_eq, st_ne, st_at, iT, iF, Nat.zero_add, Nat.add_zero, not_true_eq_false, not_false_eq_true, true_and, and_true, false_and, and_false, or_true, true_or, or_false, false_or, Nat.reduceEqDiff, Nat.reduceLeDiff, Nat.reduceLT, Nat.reduceAdd, Nat.reduceSub, Nat.reduceMul, Nat.reduceDiv, Nat.reduceMod, ↓reduceIte, z, e, rm_len h]
      refine OkM.mk rfl (relM_feed h (fun n k hn => ?_) rfl rfl rfl rfl rfl rfl rfl rfl rfl (fun k hk => va_up_ne _ _ hk) (fun i => ?_) (fun i => ?_) ?_ (fun k hk => ?_)) ((fr_st (by omega)).tr (fr_st (by omega)))
      · simp at hn
        rw [st_eq, if_neg (by omega), st_eq, if_neg (by omega)]
      · rw [va_up_ne _ _ (by omega), va_up_ne _ _ (by omega)]
      · rw [va_up_ne _ _ (by omega), va_up_ne _ _ (by omega)]
      · rw [st_at, if_pos rfl]
        exact congrArg nI (va_up_self (a 5) 1 _).symm
      · have e5 : va_up (va_up a 6 (va_up (a 6) (a 5 1) j)) 5 (va_up (a 5) 1 (a 5 1 + 1)) 5 1 = a 5 1 + 1 := va_up_self (a 5) 1 _
        rw [e5] at hk
        rw [st_ne (by omega), st_at]
        show _ = nI (va_up (a 6) (a 5 1) j k)
        unfold va_up
        by_cases y : k = a 5 1
        · rw [if_pos y, if_pos y]
        · rw [if_neg y, if_neg y]
          exact rm_text h (by omega)
  · rw [if_neg q, if_neg q, if_pos (by decide)]
    exact OkM.same h rfl
theorem M_told {a : Ab} {σ : Sg} (h : RelM a σ) (g : Gb a) (x : Int32) : OkM σ (fX12_told σ x) (sp_told a x, a) := by
  have hP := gb_P g
  unfold fX12_told sp_told
  obtain ⟨τ1, b1, s1⟩ := mBorne h g
  obtain ⟨τ2, b2, s2⟩ := mMade h g
  rw [rm_P h, sh_nI (show a 0 4 < 8 by omega)]
  have w0 := rm_w h (show 0 < 30 by omega)
  have w1 := rm_w h (show 1 < 30 by omega)
  have w2 := rm_w h (show 2 < 30 by omega)
  have w3 := rm_w h (show 3 < 30 by omega)
  have w4 := rm_w h (show 4 < 30 by omega)
  have c0 : (0 : Int32).toNatClampNeg = 0 := by decide
  have c1 : (1 : Int32).toNatClampNeg = 1 := by decide
  have c2 : (2 : Int32).toNatClampNeg = 2 := by decide
  have c3 : (3 : Int32).toNatClampNeg = 3 := by decide
  have c4 : (4 : Int32).toNatClampNeg = 4 := by decide
  have i0 : inb 0 60 := by decide
  have i1 : inb 1 60 := by decide
  have i2 : inb 2 60 := by decide
  have i3 : inb 3 60 := by decide
  have i4 : inb 4 60 := by decide
  rw [if_pos i0, if_pos i1, if_pos i2, if_pos i3, if_pos i4, c0, c1, c2, c3, c4, w0, w1, w2, w3, w4, mTof h g, b1, b2, mWorst h g, mMany h g, mIne h g, mAsk h g, rm_step h, rm_V h, rm_len h, rm_rets h, rm_booked h, rm_undos h, lim1, li1]
  simp only [bi_some]
  by_cases q0 : x = 0
  · rw [if_pos q0, if_pos q0]; exact OkM.same h rfl
  rw [if_neg q0, if_neg q0]
  by_cases q1 : x = nI 1
  · rw [if_pos q1, if_pos q1]; exact OkM.same h rfl
  rw [if_neg q1, if_neg q1]
  by_cases q2 : x = 2
  · rw [if_pos q2, if_pos q2]; exact OkM.same h rfl
  rw [if_neg q2, if_neg q2]
  by_cases q3 : x = 3
  · rw [if_pos q3, if_pos q3]; exact OkM.same h rfl
  rw [if_neg q3, if_neg q3]
  by_cases q4 : x = 4
  · rw [if_pos q4, if_pos q4]; exact OkM.same h rfl
  rw [if_neg q4, if_neg q4]
  by_cases q5 : x = 5
  · rw [if_pos q5, if_pos q5]; exact OkM.same h rfl
  rw [if_neg q5, if_neg q5]
  by_cases q6 : x = 6
  · rw [if_pos q6, if_pos q6]; exact OkM.same h rfl
  rw [if_neg q6, if_neg q6]
  by_cases q7 : x = 7
  · rw [if_pos q7, if_pos q7]; exact OkM.same h rfl
  rw [if_neg q7, if_neg q7]
  by_cases q8 : x = 8
  · rw [if_pos q8, if_pos q8]; exact OkM.same h rfl
  rw [if_neg q8, if_neg q8]
  by_cases q9 : x = 9
  · rw [if_pos q9, if_pos q9]; exact OkM.same h rfl
  rw [if_neg q9, if_neg q9]
  by_cases q10 : x = 10
  · rw [if_pos q10, if_pos q10]; exact OkM.sm h rfl s1
  rw [if_neg q10, if_neg q10]
  by_cases q11 : x = 11
  · rw [if_pos q11, if_pos q11]; exact OkM.sm h rfl s2
  rw [if_neg q11, if_neg q11]
  by_cases q12 : x = 12
  · rw [if_pos q12, if_pos q12]; exact OkM.same h rfl
  rw [if_neg q12, if_neg q12]
  by_cases q13 : x = 13
  · rw [if_pos q13, if_pos q13]; exact OkM.same h rfl
  rw [if_neg q13, if_neg q13]
  by_cases q14 : x = 14
  · rw [if_pos q14, if_pos q14]; exact OkM.same h rfl
  rw [if_neg q14, if_neg q14]
  by_cases q15 : x = 15
  · rw [if_pos q15, if_pos q15]; exact OkM.same h rfl
  rw [if_neg q15, if_neg q15]
  by_cases q16 : x = 16
  · rw [if_pos q16, if_pos q16]; exact OkM.same h rfl
  rw [if_neg q16, if_neg q16]
  by_cases q17 : x = 17
  · rw [if_pos q17, if_pos q17]; exact OkM.same h rfl
  rw [if_neg q17, if_neg q17]
  by_cases q18 : x = 18
  · rw [if_pos q18, if_pos q18]; exact OkM.same h rfl
  rw [if_neg q18, if_neg q18]
  exact OkM.same h rfl
theorem M_village {a : Ab} {σ : Sg} (h : RelM a σ) (g : Gb a) (x y : Int32) : OkM σ (fX12_village σ x y) (sp_village a x y, a) := by
  have hV := gb_V g
  unfold fX12_village sp_village
  rw [mVill h g, bi_some]
  by_cases q : isR (a 0 3) x
  · rw [if_pos q, if_pos q, if_neg (by decide)]
    obtain ⟨j, hj, rfl⟩ := ix_of (by omega) q
    rw [dn_n (by omega), mOfV (Hm.of h) g (show j ≤ 4 by omega), mHad h g hj, mHarmOf h g (show j ≤ 4 by omega)]
    simp (disch := omega) only [lt_eq, bi_some, bv_some, ↓lim1, pk_m1f, fI_add1, li0, li1, li2, li3, li4, li5, li6, li7, li8, li9, li10, li12, li15, li16, li19, li20, li26, li30, li31, li32, li48, li57, li59, li60, li64, li99, li100, li128, li240, li255, li480, li999, li1000, li9000, li9999, liF, nI_add, sb_nI, pk_mul, dv_nI, cl_nI, inbT, le_nI, lt_nI, eq_nI, fI_le, fI_eq, st_ne, st_at, iT, iF, Nat.zero_add, Nat.add_zero, not_true_eq_false, not_false_eq_true, true_and, and_true, false_and, and_false, or_true, true_or, or_false, false_or, Nat.reduceEqDiff, Nat.reduceLeDiff, Nat.reduceLT, Nat.reduceAdd, Nat.reduceSub, Nat.reduceMul, Nat.reduceDiv, Nat.reduceMod, ↓reduceIte, rm_w h]
    by_cases q0 : y = nI 0
    · rw [if_pos q0, if_pos q0]; exact OkM.same h rfl
    rw [if_neg q0, if_neg q0]
    by_cases q1 : y = nI 1
    · rw [if_pos q1, if_pos q1]; exact OkM.same h rfl
    rw [if_neg q1, if_neg q1]
    by_cases q2 : y = nI 2
    · rw [if_pos q2, if_pos q2]; exact OkM.same h rfl
    rw [if_neg q2, if_neg q2]
    by_cases q3 : y = nI 3
    · rw [if_pos q3, if_pos q3]; exact OkM.same h rfl
    rw [if_neg q3, if_neg q3]
    exact OkM.same h rfl
  · rw [if_neg q, if_neg q, if_pos (by decide)]
    exact OkM.same h rfl
