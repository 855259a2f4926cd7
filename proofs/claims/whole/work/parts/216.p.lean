/-! the reference's calls: what is done -/
theorem remA_4 (a : Ab) : remA a 4 = a 4 := remA_out a (by omega) (by omega)
theorem remA_0 (a : Ab) : remA a 0 = a 0 := remA_out a (by omega) (by omega)
/-- remembered, then another row -/
theorem mThen {a : Ab} {σ : Sg} (h : RelM a σ) (g : Gb a) {w : Nat → Nat} {f : Sg → Option (Int32 × Sg)} {r : Int32} (hf : ∀ τ, RelM (remA a) τ → ∃ υ, f τ = some (r, wr υ 0 w) ∧ Sm τ υ) : OkM σ (bv (fX12_remember σ) f) (r, va_up (remA a) 4 w) := by
  obtain ⟨τ, e, h2, fr⟩ := mRem h g
  obtain ⟨υ, e2, s⟩ := hf τ h2
  rw [e, bv_some, e2]
  exact OkM.mk rfl (relM_w (s.rel h2) w) (fr.tr ((Fr.of s).tr (fr_wr _ _ _)))
theorem M_tell {a : Ab} {σ : Sg} (h : RelM a σ) (g : Gb a) (x y : Int32) : OkM σ (fX12_tell σ x y) (sp_tell a x y) := by
  have hP := gb_P g
  unfold fX12_tell sp_tell
  rw [mPers h g, bi_some, in_rg (n := 99) σ y (by decide) (by omega), bi_some]
  by_cases q : isR (a 0 4) x
  · rw [if_pos q, if_pos q, if_neg (by decide)]
    by_cases z : isR (99 + 1) y
    · rw [if_pos z, if_pos z, if_neg (by decide)]
      obtain ⟨p, hp, rfl⟩ := ix_of (by omega) q
      obtain ⟨n, hn, rfl⟩ := ix_of (by omega) z
      rw [dn_n (by omega), dn_n (by omega)]
      refine mThen h g (fun τ h2 => ?_)
      have t := mTells h2 (gb_rem g) (p := p) (n := n) (by rw [remA_0]; exact hp) (by omega)
      rw [t, bi_some, remA_4]
      exact ⟨τ, rfl, Sm.rf τ⟩
    · rw [if_neg z, if_neg z, if_pos (by decide)]
      exact OkM.same h rfl
  · rw [if_neg q, if_neg q, if_pos (by decide)]
    exact OkM.same h rfl
theorem brg_rem (a : Ab) (p f : Nat) : brg (remA a) p f = brg a p f := by
  unfold brg
  rw [remA_4, remA_0, remA_out a (n := 1) (by omega) (by omega)]
theorem M_answer {a : Ab} {σ : Sg} (h : RelM a σ) (g : Gb a) (x y : Int32) : OkM σ (fX12_answer σ x y) (sp_answer a x y) := by
  have hP := gb_P g
  unfold fX12_answer fX12_answer_16 sp_answer
  rw [mPers h g, bi_some, mPers h g, bi_some]
  by_cases q : isR (a 0 4) x
  · rw [if_pos q, if_neg (by decide)]
    by_cases z : isR (a 0 4) y
    · rw [if_pos z, if_neg (by decide), if_pos ⟨q, z⟩]
      obtain ⟨p, hp, rfl⟩ := ix_of (by omega) q
      obtain ⟨n, hn, rfl⟩ := ix_of (by omega) z
      rw [dn_n (by omega), dn_n (by omega), mMayGo h g hp hn, bi_some]
      by_cases u : 0 < a 4 (12 + p) ∧ bt (a 4 3) n = 0
      · rw [if_pos u, if_pos u, if_neg (by decide)]
        refine mThen h g (fun τ h2 => ?_)
        obtain ⟨υ, e, s⟩ := mAnswers h2 (gb_rem g) (p := p) (q := n) (by rw [remA_0]; exact hp) (by rw [remA_0]; exact hn)
        rw [e, bv_some, remA_4, brg_rem]
        refine ⟨υ, ?_, s⟩
        generalize hL : (brg a n (a 4 (12 + p))).1 = L
        have ew : ansW (a 4) p n L (12 + p) = L := by
          unfold ansW
          rw [va_up_ne _ _ (by omega), va_up_ne _ _ (by omega), va_up_ne _ _ (by omega), va_up_self]
        simp (disch := omega) only [lt_eq, bi_some, bv_some, ↓lim1, pk_m1f, fI_add1, li0, li1, li2, li3, li4, li5, li6, li7, li8, li9, li10, li12, li15, li16, li19, li20, li26, li30, li31, li32, li48, li57, li59, li60, li64, li99, li100, li128, li240, li255, li480, li999, li1000, li9000, li9999, liF, nI_add, sb_nI, pk_mul, dv_nI, cl_nI, inbT, le_nI, lt_nI, eq_nI, fI_le, fI_eq, st_ne, st_at, iT, iF, Nat.zero_add, Nat.add_zero, not_true_eq_false, not_false_eq_true, true_and, and_true, false_and, and_false, or_true, true_or, or_false, false_or, Nat.reduceEqDiff, Nat.reduceLeDiff, Nat.reduceLT, Nat.reduceAdd, Nat.reduceSub, Nat.reduceMul, Nat.reduceDiv, Nat.reduceMod, ↓reduceIte, wr_at0, ew]
      · rw [if_neg u, if_neg u, if_pos (by decide)]
        exact OkM.same h rfl
    · rw [if_neg z, if_pos (by decide), if_neg (fun y => z y.2)]
      exact OkM.same h rfl
  · rw [if_neg q, if_pos (by decide), if_neg (fun y => q y.1)]
    exact OkM.same h rfl
theorem M_wit {a : Ab} {σ : Sg} (h : RelM a σ) (g : Gb a) (x y : Int32) : OkM σ (fX12_wit σ x y) (sp_wit a x y) := by
  have hP := gb_P g
  unfold fX12_wit sp_wit
  rw [mPers h g, bi_some, in_rg1 (n := 9) σ y (by decide) (by omega), bi_some]
  by_cases q : isR (a 0 4) x
  · rw [if_pos q, if_pos q, if_neg (by decide)]
    by_cases z : isR (9 + 1) y ∧ ¬ y = 0
    · rw [if_pos z, if_pos z, if_neg (by decide)]
      obtain ⟨p, hp, rfl⟩ := ix_of (by omega) q
      obtain ⟨n, hn, rfl⟩ := ix_of (by omega) z.1
      rw [dn_n (by omega), dn_n (by omega)]
      refine mThen h g (fun τ h2 => ?_)
      have e := wr_self h2
      rw [remA_4] at e
      refine ⟨τ, ?_, Sm.rf τ⟩
      rw [← e]
      simp (disch := omega) only [lt_eq, bi_some, bv_some, ↓lim1, pk_m1f, fI_add1, li0, li1, li2, li3, li4, li5, li6, li7, li8, li9, li10, li12, li15, li16, li19, li20, li26, li30, li31, li32, li48, li57, li59, li60, li64, li99, li100, li128, li240, li255, li480, li999, li1000, li9000, li9999, liF, nI_add, sb_nI, pk_mul, dv_nI, cl_nI, inbT, le_nI, lt_nI, eq_nI, fI_le, fI_eq, st_ne, st_at, iT, iF, Nat.zero_add, Nat.add_zero, not_true_eq_false, not_false_eq_true, true_and, and_true, false_and, and_false, or_true, true_or, or_false, false_or, Nat.reduceEqDiff, Nat.reduceLeDiff, Nat.reduceLT, Nat.reduceAdd, Nat.reduceSub, Nat.reduceMul, Nat.reduceDiv, Nat.reduceMod, ↓reduceIte, wr_at0, wr_st0, wr_wr]
    · rw [if_neg z, if_neg z, if_pos (by decide)]
      exact OkM.same h rfl
  · rw [if_neg q, if_neg q, if_pos (by decide)]
    exact OkM.same h rfl
theorem M_bear {a : Ab} {σ : Sg} (h : RelM a σ) (g : Gb a) (x y : Int32) : OkM σ (fX12_bear σ x y) (sp_bear a x y) := by
  have hV := gb_V g
  unfold fX12_bear sp_bear
  rw [mVill h g, bi_some, in_rg (n := 99) σ y (by decide) (by omega), bi_some]
  by_cases q : isR (a 0 3) x
  · rw [if_pos q, if_pos q, if_neg (by decide)]
    by_cases z : isR (99 + 1) y
    · rw [if_pos z, if_pos z, if_neg (by decide)]
      obtain ⟨p, hp, rfl⟩ := ix_of (by omega) q
      obtain ⟨n, hn, rfl⟩ := ix_of (by omega) z
      rw [dn_n (by omega), dn_n (by omega)]
      refine mThen h g (fun τ h2 => ?_)
      have e := wr_self h2
      rw [remA_4] at e
      refine ⟨τ, ?_, Sm.rf τ⟩
      rw [← e]
      simp (disch := omega) only [lt_eq, bi_some, bv_some, ↓lim1, pk_m1f, fI_add1, li0, li1, li2, li3, li4, li5, li6, li7, li8, li9, li10, li12, li15, li16, li19, li20, li26, li30, li31, li32, li48, li57, li59, li60, li64, li99, li100, li128, li240, li255, li480, li999, li1000, li9000, li9999, liF, nI_add, sb_nI, pk_mul, dv_nI, cl_nI, inbT, le_nI, lt_nI, eq_nI, fI_le, fI_eq, st_ne, st_at, iT, iF, Nat.zero_add, Nat.add_zero, not_true_eq_false, not_false_eq_true, true_and, and_true, false_and, and_false, or_true, true_or, or_false, false_or, Nat.reduceEqDiff, Nat.reduceLeDiff, Nat.reduceLT, Nat.reduceAdd, Nat.reduceSub, Nat.reduceMul, Nat.reduceDiv, Nat.reduceMod, ↓reduceIte, wr_at0, wr_st0, wr_wr]
    · rw [if_neg z, if_neg z, if_pos (by decide)]
      exact OkM.same h rfl
  · rw [if_neg q, if_neg q, if_pos (by decide)]
    exact OkM.same h rfl
theorem M_undo {a : Ab} {σ : Sg} (h : RelM a σ) (g : Gb a) : OkM σ (fX12_undo σ) (sp_undo a) := by
  have hu := gb_undos g
  unfold sp_undo
  by_cases q : a 5 3 = 0
  · rw [if_pos q]
    unfold fX12_undo
    rw [rm_undos h, q, if_pos (by decide)]
    exact OkM.same h rfl
  · rw [if_neg q]
    obtain ⟨τ, e, h2, f⟩ := mUndo h g (by omega)
    exact OkM.mk e h2 f
theorem M_down {a : Ab} {σ : Sg} (h : RelM a σ) (g : Gb a) (x y z : Int32) : OkM σ (fX12_down σ x y z) (sp_down a x y z, a) := by
  have hP := gb_P g
  unfold fX12_down fX12_down_33 sp_down
  rw [mPers h g, bi_some, in_rg (n := 99) σ y (by decide) (by omega), bi_some, in_rg (n := 1) σ z (by decide) (by omega), bi_some]
  by_cases q : isR (a 0 4) x
  · rw [if_pos q, if_pos q, if_neg (by decide)]
    by_cases u : isR (99 + 1) y
    · rw [if_pos u, if_neg (by decide)]
      by_cases v : isR (1 + 1) z
      · rw [if_pos v, if_neg (by decide), if_pos ⟨u, v⟩]
        obtain ⟨p, hp, rfl⟩ := ix_of (by omega) q
        obtain ⟨n, hn, rfl⟩ := ix_of (by omega) u
        rw [dn_n (by omega), dn_n (by omega), barg_spec h g hp (by omega), bi_some, st_at, if_pos rfl]
        by_cases w : z = 0
        · rw [if_pos w, if_pos w]
          exact OkM.sm h rfl (sm_turn _)
        · rw [if_neg w, if_neg w]
          exact OkM.sm h rfl (sm_turn _)
      · rw [if_neg v, if_pos (by decide), if_neg (fun y => v y.2)]
        exact OkM.same h rfl
    · rw [if_neg u, if_pos (by decide), if_neg (fun y => u y.1)]
      exact OkM.same h rfl
  · rw [if_neg q, if_neg q, if_pos (by decide)]
    exact OkM.same h rfl
theorem M_best {a : Ab} {σ : Sg} (h : RelM a σ) (g : Gb a) (x : Int32) : OkM σ (fX12_best σ x) (sp_best a x, a) := by
  unfold fX12_best sp_best
  rw [in_rg (n := 99) σ x (by decide) (by omega), bi_some, lt_eq]
  by_cases q : isR (99 + 1) x
  · rw [if_pos q, if_pos q, if_neg (by decide)]
    obtain ⟨n, hn, rfl⟩ := ix_of (by omega) q
    rw [dn_n (by omega)]
    obtain ⟨τ, e, s⟩ := mBest h g (m := n) (by omega)
    exact OkM.sm h e s
  · rw [if_neg q, if_neg q, if_pos (by decide)]
    exact OkM.same h rfl
theorem M_shares {a : Ab} {σ : Sg} (h : RelM a σ) (g : Gb a) (x y : Int32) : OkM σ (fX12_shares σ x y) (sp_shares a x y, a) := by
  have hV := gb_V g
  unfold fX12_shares sp_shares
  rw [mVill h g, bi_some, in_rg (n := 999) σ x (by decide) (by omega), bi_some]
  by_cases q : isR (a 0 3) y
  · rw [if_pos q, if_pos q, if_neg (by decide)]
    by_cases z : isR (999 + 1) x
    · rw [if_pos z, if_pos z, if_neg (by decide)]
      obtain ⟨k, hk, rfl⟩ := ix_of (by omega) q
      obtain ⟨v, hv, rfl⟩ := ix_of (by omega) z
      rw [dn_n (by omega), dn_n (by omega), mLevel h g (by omega), bi_some]
      have hle := lvl_le (fun lev => sma (a 0 3) (a 4) lev 0) v 100 0
      generalize lvl (fun lev => sma (a 0 3) (a 4) lev 0) v 100 0 = L at hle ⊢
      by_cases u : L = 0
      · rw [u, if_pos (by decide), if_pos rfl]
        exact OkM.same h rfl
      · rw [lim1, if_neg (by rw [fI_eq (by omega) (by omega)]; exact u), if_neg u]
        obtain ⟨m, rfl⟩ : ∃ m, L = m + 1 := ⟨L - 1, by omega⟩
        rw [fI_s, Nat.add_sub_cancel, mShr h g (by omega) hk (by omega)]
        exact OkM.same h rfl
    · rw [if_neg z, if_neg z, if_pos (by decide)]
      exact OkM.same h rfl
  · rw [if_neg q, if_neg q, if_pos (by decide)]
    exact OkM.same h rfl
theorem M_dry {a : Ab} {σ : Sg} (h : RelM a σ) (x y : Int32) : OkM σ (fX12_dry σ x y) (sp_dry x y, a) := by
  unfold fX12_dry fX12_dry_24 sp_dry
  rw [in_rg (n := 60) σ x (by decide) (by omega), bi_some, in_rg (n := 100) σ y (by decide) (by omega), bi_some]
  by_cases q : isR (60 + 1) x
  · rw [if_pos q, if_neg (by decide)]
    by_cases z : isR (100 + 1) y
    · rw [if_pos z, if_neg (by decide), if_pos ⟨q, z⟩]
      obtain ⟨n, hn, rfl⟩ := ix_of (by omega) q
      rw [dn_n (by omega), mDry σ (by omega) y]
      exact OkM.same h rfl
    · rw [if_neg z, if_pos (by decide), if_neg (fun y => z y.2)]
      exact OkM.same h rfl
  · rw [if_neg q, if_pos (by decide), if_neg (fun y => q y.1)]
    exact OkM.same h rfl
