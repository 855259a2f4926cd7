/-! THE CLASS'S CALLS -/
theorem le_R {n : Nat} (hn : n < 1000000) {c x : Int32} (hc : c = nI n) : (x ≤ c) = (x < nI (n + 1)) := by
  rw [hc]
  apply propext
  rw [lt_s1 hn, Int32.not_lt]
theorem rgT {ρ : Type} {n : Nat} (hn : n < 1000000) {c : Int32} (hc : c = nI n) (x : Int32) (A B : ρ) : (if x < 0 then A else if x ≤ c then B else A) = if isR (n + 1) x then B else A := by
  simp only [le_R hn hc]
  by_cases q : x < 0
  · rw [if_pos q, if_neg (fun z => z.1 q)]
  · rw [if_neg q]
    by_cases z : x < nI (n + 1)
    · rw [if_pos z, if_pos ⟨q, z⟩]
    · rw [if_neg z, if_neg (fun c => z c.2)]
theorem rgL {ρ : Type} {n : Nat} {c : Int32} (hc : c = nI n) (x : Int32) (A B : ρ) : (if x < 0 then A else if x < c then B else A) = if isR n x then B else A := by
  subst hc
  by_cases q : x < 0
  · rw [if_pos q, if_neg (fun z => z.1 q)]
  · rw [if_neg q]
    by_cases z : x < nI n
    · rw [if_pos z, if_pos ⟨q, z⟩]
    · rw [if_neg z, if_neg (fun c => z c.2)]
theorem rgF {ρ : Type} {n : Nat} (hn : n < 1000000) {c : Int32} (hc : c = nI n) (x : Int32) (A B : ρ) : (if x < 0 then A else if c < x then A else B) = if isR (n + 1) x then B else A := by
  subst hc
  by_cases q : x < 0
  · rw [if_pos q, if_neg (fun z => z.1 q)]
  · rw [if_neg q]
    by_cases z : nI n < x
    · rw [if_pos z, if_neg (fun c => (lt_s1 hn x).mp c.2 z)]
    · rw [if_neg z, if_pos ⟨q, (lt_s1 hn x).mpr z⟩]
theorem rg1 {ρ : Type} {n : Nat} (hn : n < 1000000) {c : Int32} (hc : c = nI n) (x : Int32) (A B : ρ) : (if x < 1 then A else if x ≤ c then B else A) = if isR (n + 1) x ∧ ¬ x = 0 then B else A := by
  simp only [le_R hn hc]
  have e : (x < 1) ↔ (x < 0 ∨ x = 0) := by
    rw [Int32.lt_iff_toInt_lt, Int32.lt_iff_toInt_lt, ← Int32.toInt_inj, show (1 : Int32).toInt = 1 from rfl, show (0 : Int32).toInt = 0 from rfl]
    omega
  by_cases q : x < 1
  · rw [if_pos q, if_neg (fun z => (e.mp q).elim z.1.1 z.2)]
  · rw [if_neg q]
    have q1 : ¬ x < 0 := fun c => q (e.mpr (Or.inl c))
    have q2 : ¬ x = 0 := fun c => q (e.mpr (Or.inr c))
    by_cases z : x < nI (n + 1)
    · rw [if_pos z, if_pos ⟨⟨q1, z⟩, q2⟩]
    · rw [if_neg z, if_neg (fun c => z c.1.2)]
section Calls
variable {a : Ab} {h : Nat} {σ : Sg}
theorem C_fault (x : RelC a h σ) : OkK σ (fX11_fault σ) (fI (a 5 2), a) := OkK.same x (by unfold fX11_fault; rw [x.2.2.2.2.2.2.2.2.1])
theorem C_feed (x : RelC a h σ) (g : Gb a) (y : Int32) : OkK σ (fX11_feed σ y) (sp_feed a y) := by
  have hl := gb_len g
  obtain ⟨x1, x2, x3, x4, x5, x6, x7, t1, t2, t3⟩ := x
  unfold fX11_feed fX11_feed_11 sp_feed
  rw [rgT (by omega) li255]
  by_cases q : isR 256 y
  · rw [if_pos q, if_pos q, t1]
    by_cases z : a 5 1 = 240
    · rw [if_pos z, if_neg (show ¬ nI (a 5 1) < 240 by rw [z]; decide)]
      exact OkK.same ⟨x1, x2, x3, x4, x5, x6, x7, t1, t2, t3⟩ rfl
    · rw [if_neg z]
      obtain ⟨j, hj, rfl⟩ := ix_of (by omega) q
      rw [dn_n (by omega)]
      unfold fX8_append
      have e : st σ 2 (a 5 1) (nI j) 1 1 = nI (a 5 1) := by rw [st_ne (by omega)]; exact t1
      rw [t1]
      simp (disch := omega) only [lt_eq, bi_some, bv_some, ↓lim1, pk_m1f, fI_add1, li0, li1, li2, li3, li4, li5, li6, li7, li8, li9, li10, li12, li15, li16, li19, li20, li26, li30, li31, li32, li48, li57, li59, li60, li64, li99, li100, li128, li240, li255, li480, li999, li1000, li9000, li9999, liF, nI_add, sb_nI, pk_mul, dv_nI, cl_nI, inbT, le_nI, lt_nI, eq_nI, fI_le, fI_eq, st_ne, st_at, iT, iF, Nat.zero_add, Nat.add_zero, not_true_eq_false, not_false_eq_true, true_and, and_true, false_and, and_false, or_true, true_or, or_false, false_or, Nat.reduceEqDiff, Nat.reduceLeDiff, Nat.reduceLT, Nat.reduceAdd, Nat.reduceSub, Nat.reduceMul, Nat.reduceDiv, Nat.reduceMod, ↓reduceIte, show a 5 1 < 240 by omega, e]
      have e5 : ∀ k, k ≠ 1 → va_up (va_up a 6 (va_up (a 6) (a 5 1) j)) 5 (va_up (a 5) 1 (a 5 1 + 1)) 5 k = a 5 k := fun k hk => va_up_ne _ _ hk
      have e51 : va_up (va_up a 6 (va_up (a 6) (a 5 1) j)) 5 (va_up (a 5) 1 (a 5 1 + 1)) 5 1 = a 5 1 + 1 := va_up_self (a 5) 1 _
      have eo : ∀ n, n ≠ 5 → n ≠ 6 → va_up (va_up a 6 (va_up (a 6) (a 5 1) j)) 5 (va_up (a 5) 1 (a 5 1 + 1)) n = a n := fun n h5 h6 => by rw [va_up_ne _ _ h5, va_up_ne _ _ h6]
      have tm : ∀ m, m ≠ 1 → m ≠ 2 → st (st σ 2 (a 5 1) (nI j)) 1 1 (nI (a 5 1 + 1)) m = σ m := fun m h1 h2 => by rw [st_ne h1, st_ne h2]
      refine OkK.mk (h := h) rfl ?_ ((frc_st (by omega)).tr (frc_st (by omega)))
      generalize hT : st (st σ 2 (a 5 1) (nI j)) 1 1 (nI (a 5 1 + 1)) = T at tm ⊢
      have e6 : va_up (va_up a 6 (va_up (a 6) (a 5 1) j)) 5 (va_up (a 5) 1 (a 5 1 + 1)) 6 = va_up (a 6) (a 5 1) j := by rw [va_up_ne _ _ (by omega), va_up_self]
      generalize va_up (va_up a 6 (va_up (a 6) (a 5 1) j)) 5 (va_up (a 5) 1 (a 5 1 + 1)) = b at e5 e51 eo e6 ⊢
      have ep : (fun i => b (20 + i)) = fun i => a (20 + i) := by funext i; exact eo _ (by omega) (by omega)
      have ei : (fun i => b (40 + i)) = fun i => a (40 + i) := by funext i; exact eo _ (by omega) (by omega)
      have ek : (fun i => b 5 (6 + i)) = fun i => a 5 (6 + i) := by funext i; exact e5 _ (by omega)
      unfold RelC Hl
      rw [ep, ei, ek, eo 0 (by omega) (by omega), eo 1 (by omega) (by omega), eo 2 (by omega) (by omega), eo 3 (by omega) (by omega), eo 4 (by omega) (by omega), eo 7 (by omega) (by omega), eo 8 (by omega) (by omega), eo 9 (by omega) (by omega), eo 10 (by omega) (by omega), e6, e51, e5 0 (by omega), e5 2 (by omega), e5 3 (by omega), e5 4 (by omega), e5 5 (by omega)]
      refine ⟨x1.to (fun m hm => tm m (by omega) (by omega)), x2.to (fun m h1 h2 => tm m (by omega) (by omega)), x3.to (fun m h1 h2 => tm m (by omega) (by omega)), x4.to (fun m h1 h2 => tm m (by omega) (by omega)), by rw [tm 113 (by omega) (by omega)]; exact x5, x6.to (fun m h1 h2 => tm m (by omega) (by omega)), x7.to (fun m h1 h2 => tm m (by omega) (by omega)), ?_, ?_, fun k hk => ?_⟩
      · rw [← hT, st_at, if_pos rfl]
      · rw [← hT, st_at, if_neg (by omega), st_ne (by omega)]; exact t2
      · rw [← hT, st_ne (by omega), st_at]
        unfold va_up
        by_cases c : k = a 5 1
        · rw [if_pos c, if_pos c]
        · rw [if_neg c, if_neg c]; exact t3 k (by omega)
  · rw [if_neg q, if_neg q]
    exact OkK.same ⟨x1, x2, x3, x4, x5, x6, x7, t1, t2, t3⟩ rfl
theorem C_told (x : RelC a h σ) (g : Gb a) (y : Int32) : OkK σ (fX11_told σ y) (sp_told a y, a) := by
  have c := Cs.of x
  have r := Rt.of x
  have hw := gb_w g
  unfold fX11_told sp_told
  rw [cs_pat c, hl_gk x.1, hl_gk x.1, hl_gk x.1, hl_gk x.1, hl_gk x.1, hl_gk x.1, hl_step x.1, hl_V x.1, hl_P x.1, x.2.2.2.2.2.2.2.1, cs_yrs c, cs_owed c, cFateful c g hw, cUntold c g, cs_went c, cBorne c g, cMade c g, cWorst c g hw, r.2.1, cMany r g, cIne r g, cAsk r g, x.2.2.2.2.2.2.1.1, x.2.2.1.1]
  simp only [bi_some]
  have eb : (if nI (bor a) = 0 then some (0, σ) else some (1, σ)) = some (nI (bor a), σ) := by
    unfold bor
    split
    · rfl
    · rfl
  rw [eb]
  have same : ∀ r : Int32, OkK σ (some (r, σ)) (r, a) := fun r => OkK.same x rfl
  by_cases q0 : y = 0
  · rw [if_pos q0, if_pos q0]; exact same _
  rw [if_neg q0, if_neg q0]
  by_cases q1 : y = 1
  · rw [if_pos q1, if_pos q1]; exact same _
  rw [if_neg q1, if_neg q1]
  by_cases q2 : y = 2
  · rw [if_pos q2, if_pos q2]; exact same _
  rw [if_neg q2, if_neg q2]
  by_cases q3 : y = 3
  · rw [if_pos q3, if_pos q3]; exact same _
  rw [if_neg q3, if_neg q3]
  by_cases q4 : y = 4
  · rw [if_pos q4, if_pos q4]; exact same _
  rw [if_neg q4, if_neg q4]
  by_cases q5 : y = 5
  · rw [if_pos q5, if_pos q5]; exact same _
  rw [if_neg q5, if_neg q5]
  by_cases q6 : y = 6
  · rw [if_pos q6, if_pos q6]; exact same _
  rw [if_neg q6, if_neg q6]
  by_cases q7 : y = 7
  · rw [if_pos q7, if_pos q7]; exact same _
  rw [if_neg q7, if_neg q7]
  by_cases q8 : y = 8
  · rw [if_pos q8, if_pos q8]; exact same _
  rw [if_neg q8, if_neg q8]
  by_cases q9 : y = 9
  · rw [if_pos q9, if_pos q9]; exact same _
  rw [if_neg q9, if_neg q9]
  by_cases q10 : y = 10
  · rw [if_pos q10, if_pos q10]; exact same _
  rw [if_neg q10, if_neg q10]
  by_cases q11 : y = 11
  · rw [if_pos q11, if_pos q11]; exact same _
  rw [if_neg q11, if_neg q11]
  by_cases q12 : y = 12
  · rw [if_pos q12, if_pos q12]; exact same _
  rw [if_neg q12, if_neg q12]
  by_cases q13 : y = 13
  · rw [if_pos q13, if_pos q13]; exact same _
  rw [if_neg q13, if_neg q13]
  by_cases q14 : y = 14
  · rw [if_pos q14, if_pos q14]; exact same _
  rw [if_neg q14, if_neg q14]
  by_cases q15 : y = 15
  · rw [if_pos q15, if_pos q15]; exact same _
  rw [if_neg q15, if_neg q15]
  by_cases q16 : y = 16
  · rw [if_pos q16, if_pos q16]; exact same _
  rw [if_neg q16, if_neg q16]
  by_cases q17 : y = 17
  · rw [if_pos q17, if_pos q17]; exact same _
  rw [if_neg q17, if_neg q17]
  by_cases q18 : y = 18
  · rw [if_pos q18, if_pos q18]; exact same _
  rw [if_neg q18, if_neg q18]
  exact same _
theorem C_person (x : RelC a h σ) (g : Gb a) (y z : Int32) : OkK σ (fX11_person σ y z) (sp_person a y z, a) := by
  have hP := gb_P g
  have c := Cs.of x
  unfold fX11_person sp_person
  rw [cPers x.1, bi_some]
  by_cases q : isR (a 0 4) y
  · rw [if_pos q, if_pos q, if_neg (by decide)]
    obtain ⟨p, hp, rfl⟩ := ix_of (by omega) q
    have ec : (nI p).toNatClampNeg = p := cl_nI (by omega)
    have hi : inb (nI p) 7 := inb_nI (by omega) (by omega)
    obtain ⟨u, v, er⟩ := cRid c g hp
    rw [dn_n (by omega), hl_gk x.1, hl_gk x.1, hl_gk x.1, hl_gk x.1, hl_gk x.1, er, cRing x.1 g hp, cFirst x.1 g hp]
    simp only [bi_some, ec, if_pos hi]
    rw [hl_kind x.1 hp, hl_home x.1 hp, hl_from x.1 hp, cs_wit c hp, cs_fate c hp, cs_harm c hp]
    have same : ∀ r : Int32, OkK σ (some (r, σ)) (r, a) := fun r => OkK.same x rfl
    have rid' : OkK σ (some (nI (rid a p), bs σ u v)) (nI (rid a p), a) := OkK.mk rfl (x.bs u v) (frc_bs _ _ _)
    repeat' split
    all_goals first | exact same _ | exact rid' | contradiction
  · rw [if_neg q, if_neg q, if_pos (by decide)]
    exact OkK.same x rfl
theorem C_village (x : RelC a h σ) (g : Gb a) (y z : Int32) : OkK σ (fX11_village σ y z) (sp_village a y z, a) := by
  have hV := gb_V g
  have c := Cs.of x
  unfold fX11_village sp_village
  rw [cVill x.1, bi_some]
  by_cases q : isR (a 0 3) y
  · rw [if_pos q, if_pos q, if_neg (by decide)]
    obtain ⟨p, hp, rfl⟩ := ix_of (by omega) q
    have ec : (nI p).toNatClampNeg = p := cl_nI (by omega)
    have hi : inb (nI p) 4 := inb_nI (by omega) (by omega)
    rw [dn_n (by omega), hl_gk x.1, cHad c g hp, cHarmIn c g (gb_w g) (show p ≤ 4 by omega)]
    simp only [bi_some, ec, if_pos hi]
    rw [cs_bear c hp, hl_people x.1 hp]
    have same : ∀ r : Int32, OkK σ (some (r, σ)) (r, a) := fun r => OkK.same x rfl
    repeat' split
    all_goals first | exact same _ | contradiction
  · rw [if_neg q, if_neg q, if_pos (by decide)]
    exact OkK.same x rfl
theorem C_tell (x : RelC a h σ) (g : Gb a) (y z : Int32) : OkK σ (fX11_tell σ y z) (sp_tell a y z) := by
  have hP := gb_P g
  unfold fX11_tell fX11_tell_24 sp_tell
  rw [cPers x.1, bi_some]
  by_cases q : isR (a 0 4) y
  · rw [if_pos q, if_pos q, if_neg (by decide), rgT (by omega) li99]
    by_cases w : isR 100 z
    · rw [if_pos w, if_pos w]
      obtain ⟨p, hp, rfl⟩ := ix_of (by omega) q
      obtain ⟨n, hn, rfl⟩ := ix_of (by omega) w
      obtain ⟨τ, e, x2, f⟩ := cRemember x g
      have c2 := Cs.of x2
      have ec : (nI p).toNatClampNeg = p := cl_nI (by omega)
      have t := cForetell (a := remA a) (σ := τ) (a 4) hP (wc_set (gb_w g) hP).2 (n := n) hp
      rw [show sw (remA a) τ (a 4) = τ from sw_self x2.2.1] at t
      rw [e, bv_some, if_pos (inb_nI (show p < 7 by omega) (by omega)), ec, cs_fate c2 hp, lt_eq, t, bv_some, dn_n (by omega), dn_n (by omega)]
      exact OkK.mk rfl (x2.sw _) (f.tr (frc_sw _ _ _))
    · rw [if_neg w, if_neg w]
      exact OkK.same x rfl
  · rw [if_neg q, if_neg q, if_pos (by decide)]
    exact OkK.same x rfl
theorem C_answer (x : RelC a h σ) (g : Gb a) (y z : Int32) : OkK σ (fX11_answer σ y z) (sp_answer a y z) := by
  have hP := gb_P g
  unfold fX11_answer fX11_answer_22 sp_answer
  rw [cPers x.1, bi_some, cPers x.1, bi_some]
  by_cases q : isR (a 0 4) y
  · rw [if_pos q, if_neg (by decide)]
    by_cases w : isR (a 0 4) z
    · rw [if_pos w, if_neg (by decide), if_pos ⟨q, w⟩]
      obtain ⟨p, hp, rfl⟩ := ix_of (by omega) q
      obtain ⟨n, hn, rfl⟩ := ix_of (by omega) w
      rw [cAns (Cs.of x) g (gb_w g) hp hn, bi_some, dn_n (by omega), dn_n (by omega)]
      by_cases u : 0 < a 4 (12 + p) ∧ bt (a 4 3) n = 0
      · rw [if_pos u, if_pos u, if_neg (by decide)]
        obtain ⟨τ, e, x2, f⟩ := cRemember x g
        have ec : (nI p).toNatClampNeg = p := cl_nI (by omega)
        obtain ⟨u1, v1, t⟩ := cAnswer x2.1 (gb_rem g) (p := p) (q := n) hp hn
        rw [show sw (remA a) τ (remA a 4) = τ from sw_self x2.2.1] at t
        have eb : brg (remA a) n (remA a 4 (12 + p)) = brg a n (a 4 (12 + p)) := rfl
        rw [e, bv_some, t, bv_some, if_pos (inb_nI (show p < 7 by omega) (by omega)), ec, sw_fate (show p < remA a 0 4 from hp), eb]
        have ea : ansW (remA a 4) p n (brg a n (a 4 (12 + p))).1 (12 + p) = (brg a n (a 4 (12 + p))).1 := by
          unfold ansW
          rw [va_up_ne _ _ (by omega), va_up_ne _ _ (by omega), va_up_ne _ _ (by omega), va_up_self]
        rw [ea]
        exact OkK.mk rfl ((x2.bs u1 v1).sw _) (f.tr ((frc_bs _ _ _).tr (frc_sw _ _ _)))
      · rw [if_neg u, if_neg u, if_pos (by decide)]
        exact OkK.same x rfl
    · rw [if_neg w, if_pos (by decide), if_neg (fun c => w c.2)]
      exact OkK.same x rfl
  · rw [if_neg q, if_pos (by decide), if_neg (fun c => q c.1)]
    exact OkK.same x rfl
theorem C_wit (x : RelC a h σ) (g : Gb a) (y z : Int32) : OkK σ (fX11_wit σ y z) (sp_wit a y z) := by
  have hP := gb_P g
  unfold fX11_wit fX11_wit_25 sp_wit
  rw [cPers x.1, bi_some]
  by_cases q : isR (a 0 4) y
  · rw [if_pos q, if_pos q, if_neg (by decide), rg1 (by omega) li9]
    by_cases w : isR 10 z ∧ ¬ z = 0
    · rw [if_pos w, if_pos w]
      obtain ⟨p, hp, rfl⟩ := ix_of (by omega) q
      obtain ⟨n, hn, rfl⟩ := ix_of (by omega) w.1
      obtain ⟨τ, e, x2, f⟩ := cRemember x g
      have ec : (nI p).toNatClampNeg = p := cl_nI (by omega)
      have t := sw_st_wit (a := remA a) (σ := τ) (w := a 4) hP hp n
      rw [show sw (remA a) τ (a 4) = τ from sw_self x2.2.1] at t
      rw [e, bv_some, if_pos (inb_nI (show p < 7 by omega) (by omega)), lt_eq, if_pos (inb_nI (show p < 7 by omega) (by omega)), ec, cs_wit (Cs.of x2) hp, t, lt_eq, dn_n (by omega), dn_n (by omega)]
      exact OkK.mk rfl (x2.sw _) (f.tr (frc_sw _ _ _))
    · rw [if_neg w, if_neg w]
      exact OkK.same x rfl
  · rw [if_neg q, if_neg q, if_pos (by decide)]
    exact OkK.same x rfl
theorem C_bear (x : RelC a h σ) (g : Gb a) (y z : Int32) : OkK σ (fX11_bear σ y z) (sp_bear a y z) := by
  have hV := gb_V g
  have hP := gb_P g
  unfold fX11_bear fX11_bear_24 sp_bear
  rw [cVill x.1, bi_some]
  by_cases q : isR (a 0 3) y
  · rw [if_pos q, if_pos q, if_neg (by decide), rgT (by omega) li99]
    by_cases w : isR 100 z
    · rw [if_pos w, if_pos w]
      obtain ⟨p, hp, rfl⟩ := ix_of (by omega) q
      obtain ⟨n, hn, rfl⟩ := ix_of (by omega) w
      obtain ⟨τ, e, x2, f⟩ := cRemember x g
      have ec : (nI p).toNatClampNeg = p := cl_nI (by omega)
      have t := sw_st_bear (a := remA a) (σ := τ) (w := a 4) hP hp n
      rw [show sw (remA a) τ (a 4) = τ from sw_self x2.2.1] at t
      rw [e, bv_some, if_pos (inb_nI (show p < 4 by omega) (by omega)), lt_eq, if_pos (inb_nI (show p < 4 by omega) (by omega)), ec, cs_bear (Cs.of x2) hp, t, lt_eq, dn_n (by omega), dn_n (by omega)]
      exact OkK.mk rfl (x2.sw _) (f.tr (frc_sw _ _ _))
    · rw [if_neg w, if_neg w]
      exact OkK.same x rfl
  · rw [if_neg q, if_neg q, if_pos (by decide)]
    exact OkK.same x rfl
theorem cRefuse (x : RelC a h σ) (g : Gb a) (y : Int32) : fX11_refuseYears σ y = some (if isR 61 y ∧ ¬ y = 0 then (if a 0 1 = 0 then -1000000003 else if a 4 1 ≤ 9000 then 0 else -1000000004) else -1000000002, σ) := by
  have hy := gb_yr g
  unfold fX11_refuseYears fX11_refuseYears_11
  rw [rg1 (by omega) li60, hl_gk x.1, hl_there x.1, cs_yrs (Cs.of x)]
  by_cases q : isR 61 y ∧ ¬ y = 0
  · rw [if_pos q, if_pos q]
    by_cases z : a 0 1 = 0
    · rw [if_pos z, if_pos z, if_pos (by decide)]
    · rw [if_neg z, if_neg z, if_neg (by decide)]
      by_cases w : a 4 1 ≤ 9000
      · rw [if_pos w, if_pos (show nI (a 4 1) ≤ 9000 by rw [li9000, le_nI (by omega) (by omega)]; exact w)]
      · rw [if_neg w, if_neg (show ¬ nI (a 4 1) ≤ 9000 by rw [li9000, le_nI (by omega) (by omega)]; exact w)]
  · rw [if_neg q, if_neg q]
theorem C_year (x : RelC a h σ) (g : Gb a) (y : Int32) : OkK σ (fX11_year σ y) (sp_year a y) := by
  unfold fX11_year sp_year
  rw [cRefuse x g, bi_some]
  by_cases q : isR 61 y ∧ ¬ y = 0
  · rw [if_pos q, if_pos q]
    by_cases z : a 0 1 = 0
    · rw [if_pos z, if_pos z, if_neg (by decide)]
      exact OkK.same x rfl
    · rw [if_neg z, if_neg z]
      by_cases w : a 4 1 ≤ 9000
      · rw [if_pos w, if_pos w, if_pos rfl]
        obtain ⟨n, hn, rfl⟩ := ix_of (by omega) q.1
        obtain ⟨τ, e, x2, f⟩ := cRemember x g
        obtain ⟨υ, e3, x3, f3⟩ := cYears n 0 FU n (remA a) h τ (by omega) (by have := FU_ge; omega) (by omega) x2 (gb_rem g) (by show a 4 1 + n ≤ 9060; omega)
        rw [e, bv_some, dn_n (by omega), show (0 : Int32) = nI 0 from rfl, e3]
        exact OkK.mk rfl x3 (f.tr f3)
      · rw [if_neg w, if_neg w, if_neg (by decide)]
        exact OkK.same x rfl
  · rw [if_neg q, if_neg q, if_neg (by decide)]
    exact OkK.same x rfl
theorem C_drift (x : RelC a h σ) (g : Gb a) (y : Int32) : OkK σ (fX11_drift σ y) (sp_drift a y) := by
  unfold fX11_drift sp_drift
  rw [cRefuse x g, bi_some]
  by_cases q : isR 61 y ∧ ¬ y = 0
  · rw [if_pos q, if_pos q]
    by_cases z : a 0 1 = 0
    · rw [if_pos z, if_pos z, if_neg (by decide)]
      exact OkK.same x rfl
    · rw [if_neg z, if_neg z]
      by_cases w : a 4 1 ≤ 9000
      · rw [if_pos w, if_pos w, if_pos rfl]
        obtain ⟨n, hn, rfl⟩ := ix_of (by omega) q.1
        obtain ⟨τ, e, x2, f⟩ := cRemember x g
        obtain ⟨υ, e3, x3, f3⟩ := cDrifts n 0 FU n (remA a) h τ (by omega) (by have := FU_ge; omega) (by omega) x2 (gb_rem g) (by show a 4 1 + n ≤ 9060; omega)
        rw [e, bv_some, dn_n (by omega), show (0 : Int32) = nI 0 from rfl, e3]
        exact OkK.mk rfl x3 (f.tr f3)
      · rw [if_neg w, if_neg w, if_neg (by decide)]
        exact OkK.same x rfl
  · rw [if_neg q, if_neg q, if_neg (by decide)]
    exact OkK.same x rfl
theorem C_down (x : RelC a h σ) (g : Gb a) (y z v : Int32) : OkK σ (fX11_down σ y z v) (sp_down a y z v, a) := by
  have hP := gb_P g
  unfold fX11_down fX11_down_33 sp_down
  rw [cPers x.1, bi_some]
  by_cases q : isR (a 0 4) y
  · rw [if_pos q, if_pos q, if_neg (by decide), rgF (by omega) li99, rgT (by omega) li1]
    obtain ⟨p, hp, rfl⟩ := ix_of (by omega) q
    by_cases w : isR 100 z
    · rw [if_pos w]
      by_cases u : isR 2 v
      · rw [if_pos u, if_pos ⟨w, u⟩]
        obtain ⟨n, hn, rfl⟩ := ix_of (by omega) w
        rw [cBarg (Cs.of x) g hp (by omega), bv_some, dn_n (by omega), dn_n (by omega), bs_0, bs_1]
        by_cases c : v = 0
        · rw [if_pos c, if_pos c]
          exact OkK.mk rfl (x.bs _ _) (frc_bs _ _ _)
        · rw [if_neg c, if_neg c]
          exact OkK.mk rfl (x.bs _ _) (frc_bs _ _ _)
      · rw [if_neg u, if_neg (fun c => u c.2)]
        exact OkK.same x rfl
    · rw [if_neg w, if_neg (fun c => w c.1)]
      exact OkK.same x rfl
  · rw [if_neg q, if_neg q, if_pos (by decide)]
    exact OkK.same x rfl
theorem C_best (x : RelC a h σ) (g : Gb a) (y : Int32) : OkK σ (fX11_best σ y) (sp_best a y, a) := by
  unfold fX11_best fX11_best_10 sp_best
  rw [rgT (by omega) li99]
  by_cases q : isR 100 y
  · rw [if_pos q, if_pos q]
    obtain ⟨n, hn, rfl⟩ := ix_of (by omega) q
    obtain ⟨u, v, e⟩ := cBest (Cs.of x) g (m := n) (by omega)
    rw [e, bi_some, dn_n (by omega)]
    exact OkK.mk rfl (x.bs _ _) (frc_bs _ _ _)
  · rw [if_neg q, if_neg q]
    exact OkK.same x rfl
theorem C_shares (x : RelC a h σ) (g : Gb a) (y z : Int32) : OkK σ (fX11_shares σ y z) (sp_shares a y z, a) := by
  have hV := gb_V g
  unfold fX11_shares fX11_shares_25 sp_shares
  rw [cVill x.1, bi_some]
  by_cases q : isR (a 0 3) z
  · rw [if_pos q, if_pos q, if_neg (by decide), rgT (by omega) li999]
    by_cases w : isR 1000 y
    · rw [if_pos w, if_pos w]
      obtain ⟨p, hp, rfl⟩ := ix_of (by omega) q
      obtain ⟨n, hn, rfl⟩ := ix_of (by omega) w
      rw [cShare (Cs.of x) g (gb_w g) (show n ≤ 999 by omega) hp, bi_some, dn_n (by omega), dn_n (by omega)]
      exact OkK.same x rfl
    · rw [if_neg w, if_neg w]
      exact OkK.same x rfl
  · rw [if_neg q, if_neg q, if_pos (by decide)]
    exact OkK.same x rfl
theorem C_dry (x : RelC a h σ) (y z : Int32) : OkK σ (fX11_dry σ y z) (sp_dry y z, a) := by
  unfold fX11_dry fX11_dry_20 sp_dry
  rw [rgF (by omega) li60, rgT (by omega) li100]
  by_cases q : isR 61 y
  · rw [if_pos q]
    by_cases w : isR 101 z
    · rw [if_pos w, if_pos ⟨q, w⟩]
      obtain ⟨n, hn, rfl⟩ := ix_of (by omega) q
      rw [dn_n (by omega), li0]
      refine OkK.same x ?_
      refine (loop0 (fun m i t => fX11_dry_30 m (fun σ_8 x3_8 => some (x3_8.toInt32, σ_8)) σ (nI n) z t (nI i)) n (by omega) (fun t => some (t.toInt32, σ)) (fun _ _ => True) (fun _ t => t * z.toInt64 / 100) ?_ ?_ (fun _ _ _ _ => trivial) 1000000000 trivial).1
      · intro m t _
        simp only [fX11_dry_30_s]
        unfold fX11_dry_30b
        simp (disch := omega) only [lt_eq, bi_some, bv_some, ↓lim1, pk_m1f, fI_add1, li0, li1, li2, li3, li4, li5, li6, li7, li8, li9, li10, li12, li15, li16, li19, li20, li26, li30, li31, li32, li48, li57, li59, li60, li64, li99, li100, li128, li240, li255, li480, li999, li1000, li9000, li9999, liF, nI_add, sb_nI, pk_mul, dv_nI, cl_nI, inbT, le_nI, lt_nI, eq_nI, fI_le, fI_eq, st_ne, st_at, iT, iF, Nat.zero_add, Nat.add_zero, not_true_eq_false, not_false_eq_true, true_and, and_true, false_and, and_false, or_true, true_or, or_false, false_or, Nat.reduceEqDiff, Nat.reduceLeDiff, Nat.reduceLT, Nat.reduceAdd, Nat.reduceSub, Nat.reduceMul, Nat.reduceDiv, Nat.reduceMod, ↓reduceIte, Nat.le_refl]
      · intro m i t hi _
        simp only [fX11_dry_30_s]
        unfold fX11_dry_30b
        simp (disch := omega) only [lt_eq, bi_some, bv_some, ↓lim1, pk_m1f, fI_add1, li0, li1, li2, li3, li4, li5, li6, li7, li8, li9, li10, li12, li15, li16, li19, li20, li26, li30, li31, li32, li48, li57, li59, li60, li64, li99, li100, li128, li240, li255, li480, li999, li1000, li9000, li9999, liF, nI_add, sb_nI, pk_mul, dv_nI, cl_nI, inbT, le_nI, lt_nI, eq_nI, fI_le, fI_eq, st_ne, st_at, iT, iF, Nat.zero_add, Nat.add_zero, not_true_eq_false, not_false_eq_true, true_and, and_true, false_and, and_false, or_true, true_or, or_false, false_or, Nat.reduceEqDiff, Nat.reduceLeDiff, Nat.reduceLT, Nat.reduceAdd, Nat.reduceSub, Nat.reduceMul, Nat.reduceDiv, Nat.reduceMod, ↓reduceIte, show ¬ n ≤ i by omega]
    · rw [if_neg w, if_neg (fun c => w c.2)]
      exact OkK.same x rfl
  · rw [if_neg q, if_neg (fun c => q c.1)]
    exact OkK.same x rfl
theorem C_judge (x : RelC a h σ) (g : Gb a) : OkK σ (fX11_judge σ) (sp_judge a, a) := by
  unfold fX11_judge sp_judge
  rw [cJudge (Cs.of x) x.2.2.2.2.2.2.1 g, bi_some]
  exact OkK.same x rfl
theorem C_seed (x : RelC a h σ) (y : Int32) : OkK σ (fX11_seed σ y) (sp_seed a y) := by
  unfold fX11_seed sp_seed
  by_cases q : 0 ≤ y
  · rw [if_pos q, if_pos q, x.2.2.2.2.1, lt_eq, lt_eq]
    have e : y = nI (dn y) := by
      apply Int32.toInt_inj.mp
      have h0 : 0 ≤ y.toInt := by have := Int32.le_iff_toInt_le.mp q; rw [show (0 : Int32).toInt = 0 from rfl] at this; exact this
      have h1 := Int32.toInt_lt y
      have e2 : (dn y : Int) = y.toInt := by unfold dn Int32.toNatClampNeg; omega
      rw [nI_toInt (by omega)]
      exact e2.symm
    have x2 := x.sd (dn y)
    rw [← e] at x2
    exact OkK.mk rfl x2 (frc_st (by omega))
  · rw [if_neg q, if_neg q]
    exact OkK.same x rfl
end Calls
