/-! the reference's calls: returns told, images -/
theorem M_returned {a : Ab} {σ : Sg} (h : RelM a σ) (g : Gb a) (x : Int32) : OkM σ (fX12_returned σ x) (sp_returned a x) := by
  have h6 := gb_rets g
  unfold fX12_returned sp_returned
  rw [in_rg (n := 999) σ x (by decide) (by omega), bi_some, isHills_spec h g, bi_some]
  by_cases q : isR (999 + 1) x
  · rw [if_pos q, if_pos q, if_neg (by decide)]
    by_cases z : a 0 1 = 0
    · rw [if_pos z, if_pos z, if_pos (by decide)]
      exact OkM.same h rfl
    · rw [if_neg z, if_neg z, if_neg (by decide), rm_rets h]
      by_cases u : a 5 4 = 6
      · simp (disch := omega) only [lt_eq, bi_some, bv_some, ↓lim1, pk_m1f, fI_add1, li0, li1, li2, li3, li4, li5, li6, li7, li8, li9, li10, li12, li15, li16, li19, li20, li26, li30, li31, li32, li48, li57, li59, li60, li64, li99, li100, li128, li240, li255, li480, li999, li1000, li9000, li9999, liF, nI_add, sb_nI, pk_mul, dv_nI, cl_nI, inbT, le_nI, lt_nI, eq_nI, fI_le, fI_eq, st_ne, st_at, iT, iF, Nat.zero_add, Nat.add_zero, not_true_eq_false, not_false_eq_true, true_and, and_true, false_and, and_false, or_true, true_or, or_false, false_or, Nat.reduceEqDiff, Nat.reduceLeDiff, Nat.reduceLT, Nat.reduceAdd, Nat.reduceSub, Nat.reduceMul, Nat.reduceDiv, Nat.reduceMod, ↓reduceIte, u]
        exact OkM.same h rfl
      · obtain ⟨n, hn, rfl⟩ := ix_of (by omega) q
        rw [dn_n (by omega)]
        simp (disch := omega) only [lt_eq, bi_some, bv_some, ↓lim1, pk_m1f, fI_add1, li0, li1, li2, li3, li4, li5, li6, li7, li8, li9, li10, li12, li15, li16, li19, li20, li26, li30, li31, li32, li48, li57, li59, li60, li64, li99, li100, li128, li240, li255, li480, li999, li1000, li9000, li9999, liF, nI_add, sb_nI, pk_mul, dv_nI, cl_nI, inbT, le_nI, lt_nI, eq_nI, fI_le, fI_eq, st_ne, st_at, iT, iF, Nat.zero_add, Nat.add_zero, not_true_eq_false, not_false_eq_true, true_and, and_true, false_and, and_false, or_true, true_or, or_false, false_or, Nat.reduceEqDiff, Nat.reduceLeDiff, Nat.reduceLT, Nat.reduceAdd, Nat.reduceSub, Nat.reduceMul, Nat.reduceDiv, Nat.reduceMod, ↓reduceIte, u]
        generalize hS : st σ 145 (a 5 4) (nI n) = S
        have eR : S 132 28 = nI (a 5 4) := by rw [← hS, st_ne (by omega)]; exact rm_rets h
        have eW : S 136 = σ 136 := by rw [← hS, st_ne (by omega)]
        have key := (loop0 (fun m i (_ : Unit) => fX12_returned_49 m (fun σ_11 => lt (st σ_11 132 28 ((σ_11 132 28) + 1)) (fun σ_12 => some ((σ_12 132 28), σ_12))) (cpr S 146 (4 * a 5 4) i (fun k => σ 136 (26 + k))) (nI i)) 4 (by omega) (fun _ => some (nI (a 5 4 + 1), st (cpr S 146 (4 * a 5 4) 4 (fun k => σ 136 (26 + k))) 132 28 (nI (a 5 4 + 1)))) (fun _ _ => True) (fun _ x => x) ?_ ?_ (fun _ _ _ _ => trivial) () trivial).1
        · simp only [cpr_0] at key
          simp (disch := omega) only [lt_eq, bi_some, bv_some, ↓lim1, pk_m1f, fI_add1, li0, li1, li2, li3, li4, li5, li6, li7, li8, li9, li10, li12, li15, li16, li19, li20, li26, li30, li31, li32, li48, li57, li59, li60, li64, li99, li100, li128, li240, li255, li480, li999, li1000, li9000, li9999, liF, nI_add, sb_nI, pk_mul, dv_nI, cl_nI, inbT, le_nI, lt_nI, eq_nI, fI_le, fI_eq, st_ne, st_at, iT, iF, Nat.zero_add, Nat.add_zero, not_true_eq_false, not_false_eq_true, true_and, and_true, false_and, and_false, or_true, true_or, or_false, false_or, Nat.reduceEqDiff, Nat.reduceLeDiff, Nat.reduceLT, Nat.reduceAdd, Nat.reduceSub, Nat.reduceMul, Nat.reduceDiv, Nat.reduceMod, ↓reduceIte] at key
          rw [key]
          refine OkM.mk rfl (relM_ret h (fun n k hn => ?_) rfl rfl rfl rfl rfl rfl rfl rfl (fun k hk => va_up_ne _ _ hk) (fun i => ?_) (fun i => ?_) ?_ (fun r hr => ?_)) (fun n hn => ?_)
          · simp at hn
            rw [st_eq, if_neg (by omega), cpr_ne _ _ _ _ (by omega), ← hS, st_ne (by omega)]
          · rw [va_up_ne _ _ (by omega), va_up_ne _ _ (by omega), va_up_ne _ _ (by omega)]
          · rw [va_up_ne _ _ (by omega), va_up_ne _ _ (by omega), va_up_ne _ _ (by omega)]
          · rw [st_at, if_pos rfl]
            exact congrArg nI (va_up_self (a 5) 4 _).symm
          · have e5 : va_up (va_up (va_up a 7 (va_up (a 7) (a 5 4) n)) 8 (fun k => if 4 * a 5 4 ≤ k ∧ k < 4 * a 5 4 + 4 then a 4 (26 + (k - 4 * a 5 4)) else a 8 k)) 5 (va_up (a 5) 4 (a 5 4 + 1)) 5 4 = a 5 4 + 1 := va_up_self (a 5) 4 _
            rw [e5] at hr
            refine ⟨?_, fun v hv => ?_⟩
            · rw [st_ne (by omega), cpr_ne _ _ _ _ (by omega), ← hS, st_at]
              show _ = nI (va_up (a 7) (a 5 4) n r)
              unfold va_up
              by_cases y : r = a 5 4
              · rw [if_pos y, if_pos y]
              · rw [if_neg y, if_neg y]
                exact rm_ret h (by omega)
            · have hV := gb_V g
              have hv4 : v < a 0 3 := hv
              rw [st_ne (by omega)]
              show _ = nI (if 4 * a 5 4 ≤ 4 * r + v ∧ 4 * r + v < 4 * a 5 4 + 4 then a 4 (26 + (4 * r + v - 4 * a 5 4)) else a 8 (4 * r + v))
              by_cases y : r = a 5 4
              · rw [if_pos (by omega), y, cpr_in _ _ _ (by omega), Nat.add_sub_cancel_left]
                exact rm_w h (by omega)
              · rw [if_neg (by omega), cpr_out _ _ _ (by omega), ← hS, st_ne (by omega)]
                exact rm_retb h (by omega) hv
          · funext k
            rw [st_ne (by omega), cpr_ne _ _ _ _ (by omega), ← hS, st_ne (by omega)]
        · intro m _ _
          simp only [fX12_returned_49_s]
          unfold fX12_returned_49b
          have e : cpr S 146 (4 * a 5 4) 4 (fun k => σ 136 (26 + k)) 132 28 = nI (a 5 4) := by rw [cpr_ne _ _ _ _ (by omega)]; exact eR
          simp (disch := omega) only [lt_eq, bi_some, bv_some, ↓lim1, pk_m1f, fI_add1, li0, li1, li2, li3, li4, li5, li6, li7, li8, li9, li10, li12, li15, li16, li19, li20, li26, li30, li31, li32, li48, li57, li59, li60, li64, li99, li100, li128, li240, li255, li480, li999, li1000, li9000, li9999, liF, nI_add, sb_nI, pk_mul, dv_nI, cl_nI, inbT, le_nI, lt_nI, eq_nI, fI_le, fI_eq, st_ne, st_at, iT, iF, Nat.zero_add, Nat.add_zero, not_true_eq_false, not_false_eq_true, true_and, and_true, false_and, and_false, or_true, true_or, or_false, false_or, Nat.reduceEqDiff, Nat.reduceLeDiff, Nat.reduceLT, Nat.reduceAdd, Nat.reduceSub, Nat.reduceMul, Nat.reduceDiv, Nat.reduceMod, ↓reduceIte, Nat.le_refl, e]
        · intro m i _ hi _
          simp only [fX12_returned_49_s]
          unfold fX12_returned_49b
          have e : cpr S 146 (4 * a 5 4) i (fun k => σ 136 (26 + k)) 132 28 = nI (a 5 4) := by rw [cpr_ne _ _ _ _ (by omega)]; exact eR
          have e2 : cpr S 146 (4 * a 5 4) i (fun k => σ 136 (26 + k)) 136 (26 + i) = σ 136 (26 + i) := by rw [cpr_ne _ _ _ _ (by omega), eW]
          have s := cpr_st S 146 (4 * a 5 4) i (fun k => σ 136 (26 + k))
          simp (disch := omega) only [lt_eq, bi_some, bv_some, ↓lim1, pk_m1f, fI_add1, li0, li1, li2, li3, li4, li5, li6, li7, li8, li9, li10, li12, li15, li16, li19, li20, li26, li30, li31, li32, li48, li57, li59, li60, li64, li99, li100, li128, li240, li255, li480, li999, li1000, li9000, li9999, liF, nI_add, sb_nI, pk_mul, dv_nI, cl_nI, inbT, le_nI, lt_nI, eq_nI, fI_le, fI_eq, st_ne, st_at, iT, iF, Nat.zero_add, Nat.add_zero, not_true_eq_false, not_false_eq_true, true_and, and_true, false_and, and_false, or_true, true_or, or_false, false_or, Nat.reduceEqDiff, Nat.reduceLeDiff, Nat.reduceLT, Nat.reduceAdd, Nat.reduceSub, Nat.reduceMul, Nat.reduceDiv, Nat.reduceMod, ↓reduceIte, show ¬ 4 ≤ i by omega, e, e2, s]
  · rw [if_neg q, if_neg q, if_pos (by decide)]
    exact OkM.same h rfl
theorem M_keep {a : Ab} {σ : Sg} (h : RelM a σ) (g : Gb a) (x : Int32) : OkM σ (fX12_keep σ x) (sp_keep a x) := by
  unfold fX12_keep sp_keep
  rw [in_rg (n := 1) σ x (by decide) (by omega), bi_some]
  by_cases q : isR (1 + 1) x
  · rw [if_pos q, if_pos q, if_neg (by decide)]
    obtain ⟨j, hj, rfl⟩ := ix_of (by omega) q
    rw [dn_n (by omega)]
    have key := (loop0 (fun m i (_ : Unit) => fX12_keep_15 m (fun σ_7 x1_7 => (if inb ((31 * x1_7) + 30) 62 then lt (st σ_7 149 ((31 * x1_7) + 30).toNatClampNeg (σ_7 132 8)) (fun σ_8 => (if inb x1_7 2 then lt (st σ_8 150 x1_7.toNatClampNeg 1) (fun σ_9 => lt (st σ_9 132 25 0) (fun σ_10 => some (1, σ_10))) else none)) else none)) (cpr σ 149 (31 * j) i (σ 136)) (nI j) (nI i)) 30 (by omega) (fun _ => some (nI 1, st (st (st (cpr σ 149 (31 * j) 30 (σ 136)) 149 (31 * j + 30) (nI (a 5 0))) 150 j (nI 1)) 132 25 (nI 0))) (fun _ _ => True) (fun _ x => x) ?_ ?_ (fun _ _ _ _ => trivial) () trivial).1
    · simp only [cpr_0] at key
      refine OkM.mk key (relM_keep h (fun n k hn => ?_) ?_ ?_ ?_ ?_ ?_ ?_ ?_ ?_ ?_ ?_ (fun k hk => ?_) ?_ ?_ (fun i hi => ?_)) (fun n hn => ?_)
      · simp at hn
        rw [st_eq, if_neg (by omega), st_ne (by omega), st_ne (by omega), cpr_ne _ _ _ _ (by omega)]
      all_goals first | (rw [va_up_ne _ _ (by omega), va_up_ne _ _ (by omega)]; done) | skip
      · show va_up (va_up (a 5) (6 + j) 1) 3 0 k = a 5 k
        rw [va_up_ne _ _ (by omega), va_up_ne _ _ (by omega)]
      · exact va_up_self (va_up (a 5) (6 + j) 1) 3 0
      · rw [st_at, if_pos rfl]
        exact congrArg nI (va_up_self (va_up (a 5) (6 + j) 1) 3 0).symm
      · have e5 : va_up (va_up a (40 + j) (va_up (a 4) 30 (a 5 0))) 5 (va_up (va_up (a 5) (6 + j) 1) 3 0) 5 (6 + i) = if i = j then 1 else a 5 (6 + i) := by
          show va_up (va_up (a 5) (6 + j) 1) 3 0 (6 + i) = _
          rw [va_up_ne _ _ (by omega)]
          unfold va_up
          by_cases y : i = j
          · rw [if_pos (by omega), if_pos y]
          · rw [if_neg (by omega), if_neg y]
        have e40 : va_up (va_up a (40 + j) (va_up (a 4) 30 (a 5 0))) 5 (va_up (va_up (a 5) (6 + j) 1) 3 0) (40 + i) = if i = j then va_up (a 4) 30 (a 5 0) else a (40 + i) := by
          rw [va_up_ne _ _ (by omega)]
          unfold va_up
          by_cases y : i = j
          · rw [if_pos (by omega), if_pos y]
          · rw [if_neg (by omega), if_neg y]
        rw [e5, e40, st_ne (by omega), st_at]
        refine ⟨?_, fun h1 k hk => ?_⟩
        · by_cases y : i = j
          · rw [if_pos y, if_pos y]
          · rw [if_neg y, if_neg y, st_ne (by omega), cpr_ne _ _ _ _ (by omega)]
            exact rm_kept h hi
        · rw [st_ne (by omega), st_ne (by omega), st_at]
          by_cases y : i = j
          · rw [if_pos y, y]
            by_cases u : k = 30
            · rw [if_pos (by omega), u, va_up_self]
            · rw [if_neg (by omega), cpr_in _ _ _ (by omega), va_up_ne _ _ u]
              exact rm_w h (by omega)
          · rw [if_neg y] at h1
            rw [if_neg y, if_neg (by omega), cpr_out _ _ _ (by omega)]
            exact rm_image h hi h1 hk
      · funext k
        rw [st_ne (by omega), st_ne (by omega), st_ne (by omega), cpr_ne _ _ _ _ (by omega)]
    · intro m _ _
      simp only [fX12_keep_15_s]
      unfold fX12_keep_15b
      have e : cpr σ 149 (31 * j) 30 (σ 136) 132 8 = nI (a 5 0) := by rw [cpr_ne _ _ _ _ (by omega)]; exact rm_seed h
      simp (disch := omega) only [lt_eq, bi_some, bv_some, ↓lim1, pk_m1f, fI_add1, li0, li1, li2, li3, li4, li5, li6, li7, li8, li9, li10, li12, li15, li16, li19, li20, li26, li30, li31, li32, li48, li57, li59, li60, li64, li99, li100, li128, li240, li255, li480, li999, li1000, li9000, li9999, liF, nI_add, sb_nI, pk_mul, dv_nI, cl_nI, inbT, le_nI, lt_nI, eq_nI, fI_le, fI_eq, st_ne, st_at, iT, iF, Nat.zero_add, Nat.add_zero, not_true_eq_false, not_false_eq_true, true_and, and_true, false_and, and_false, or_true, true_or, or_false, false_or, Nat.reduceEqDiff, Nat.reduceLeDiff, Nat.reduceLT, Nat.reduceAdd, Nat.reduceSub, Nat.reduceMul, Nat.reduceDiv, Nat.reduceMod, ↓reduceIte, Nat.le_refl, e]
    · intro m i _ hi _
      simp only [fX12_keep_15_s]
      unfold fX12_keep_15b
      have e2 : cpr σ 149 (31 * j) i (σ 136) 136 i = σ 136 i := by rw [cpr_ne _ _ _ _ (by omega)]
      simp (disch := omega) only [lt_eq, bi_some, bv_some, ↓lim1, pk_m1f, fI_add1, li0, li1, li2, li3, li4, li5, li6, li7, li8, li9, li10, li12, li15, li16, li19, li20, li26, li30, li31, li32, li48, li57, li59, li60, li64, li99, li100, li128, li240, li255, li480, li999, li1000, li9000, li9999, liF, nI_add, sb_nI, pk_mul, dv_nI, cl_nI, inbT, le_nI, lt_nI, eq_nI, fI_le, fI_eq, st_ne, st_at, iT, iF, Nat.zero_add, Nat.add_zero, not_true_eq_false, not_false_eq_true, true_and, and_true, false_and, and_false, or_true, true_or, or_false, false_or, Nat.reduceEqDiff, Nat.reduceLeDiff, Nat.reduceLT, Nat.reduceAdd, Nat.reduceSub, Nat.reduceMul, Nat.reduceDiv, Nat.reduceMod, ↓reduceIte, show ¬ 30 ≤ i by omega, e2, cpr_st]
  · rw [if_neg q, if_neg q, if_pos (by decide)]
    exact OkM.same h rfl
theorem M_goBack {a : Ab} {σ : Sg} (h : RelM a σ) (g : Gb a) (x : Int32) : OkM σ (fX12_goBack σ x) (sp_goBack a x) := by
  unfold fX12_goBack sp_goBack
  rw [in_rg (n := 1) σ x (by decide) (by omega), bi_some]
  by_cases q : isR (1 + 1) x
  · rw [if_pos q, if_pos q, if_neg (by decide)]
    obtain ⟨j, hj, rfl⟩ := ix_of (by omega) q
    have hk1 := (g.2.2.2.2.2.2.2.2 j hj).1
    rw [dn_n (by omega), if_pos (inb_nI hj (by omega)), cl_nI (by omega), rm_kept h hj]
    by_cases z : a 5 (6 + j) = 0
    · simp (disch := omega) only [lt_eq, bi_some, bv_some, ↓lim1, pk_m1f, fI_add1, li0, li1, li2, li3, li4, li5, li6, li7, li8, li9, li10, li12, li15, li16, li19, li20, li26, li30, li31, li32, li48, li57, li59, li60, li64, li99, li100, li128, li240, li255, li480, li999, li1000, li9000, li9999, liF, nI_add, sb_nI, pk_mul, dv_nI, cl_nI, inbT, le_nI, lt_nI, eq_nI, fI_le, fI_eq, st_ne, st_at, iT, iF, Nat.zero_add, Nat.add_zero, not_true_eq_false, not_false_eq_true, true_and, and_true, false_and, and_false, or_true, true_or, or_false, false_or, Nat.reduceEqDiff, Nat.reduceLeDiff, Nat.reduceLT, Nat.reduceAdd, Nat.reduceSub, Nat.reduceMul, Nat.reduceDiv, Nat.reduceMod, ↓reduceIte, z]
      exact OkM.same h rfl
    · have h1 : a 5 (6 + j) = 1 := by omega
      rw [if_neg (show ¬ nI (a 5 (6 + j)) = 0 by rw [h1]; decide), if_neg z]
      have key := (loop0 (fun m i (_ : Unit) => fX12_goBack_27 m (fun σ_9 x1_9 => (if inb ((31 * x1_9) + 30) 62 then lt (st σ_9 132 8 (σ_9 149 ((31 * x1_9) + 30).toNatClampNeg)) (fun σ_11 => lt (st σ_11 132 25 0) (fun σ_12 => some (1, σ_12))) else none)) (cpr σ 136 0 i (fun k => σ 149 (31 * j + k))) (nI j) (nI i)) 30 (by omega) (fun _ => some (nI 1, st (st (cpr σ 136 0 30 (fun k => σ 149 (31 * j + k))) 132 8 (nI (a (40 + j) 30))) 132 25 (nI 0))) (fun _ _ => True) (fun _ x => x) ?_ ?_ (fun _ _ _ _ => trivial) () trivial).1
      · simp only [cpr_0] at key
        refine OkM.mk key (relM_back h (fun n k hn => ?_) ?_ ?_ ?_ ?_ ?_ ?_ ?_ ?_ ?_ (fun k hk => ?_) (fun i => ?_) ?_ ?_ ?_ (fun k hk => ?_)) (fun n hn => ?_)
        · simp at hn
          rw [st_eq, if_neg (by omega), st_eq, if_neg (by omega), cpr_ne _ _ _ _ (by omega)]
        all_goals first | (rw [va_up_ne _ _ (by omega), va_up_ne _ _ (by omega)]; done) | skip
        · show va_up (va_up (a 5) 0 (a (40 + j) 30)) 3 0 k = a 5 k
          rw [va_up_ne _ _ (by omega), va_up_ne _ _ (by omega)]
        · exact va_up_self (va_up (a 5) 0 (a (40 + j) 30)) 3 0
        · rw [st_at, if_pos rfl]
          exact congrArg nI (va_up_self (va_up (a 5) 0 (a (40 + j) 30)) 3 0).symm
        · rw [st_eq, if_neg (by omega), st_at, if_pos rfl]
          rfl
        · have := cpr_in σ 136 (B := 0) (i := 30) (fun k => σ 149 (31 * j + k)) hk
          rw [Nat.zero_add] at this
          rw [st_ne (by omega), st_ne (by omega), this]
          exact rm_image h hj h1 (by omega)
        · funext k
          rw [st_ne (by omega), st_ne (by omega), cpr_ne _ _ _ _ (by omega)]
      · intro m _ _
        simp only [fX12_goBack_27_s]
        unfold fX12_goBack_27b
        have e : cpr σ 136 0 30 (fun k => σ 149 (31 * j + k)) 149 (31 * j + 30) = nI (a (40 + j) 30) := by rw [cpr_ne _ _ _ _ (by omega)]; exact rm_image h hj h1 (by omega)
        simp (disch := omega) only [lt_eq, bi_some, bv_some, ↓lim1, pk_m1f, fI_add1, li0, li1, li2, li3, li4, li5, li6, li7, li8, li9, li10, li12, li15, li16, li19, li20, li26, li30, li31, li32, li48, li57, li59, li60, li64, li99, li100, li128, li240, li255, li480, li999, li1000, li9000, li9999, liF, nI_add, sb_nI, pk_mul, dv_nI, cl_nI, inbT, le_nI, lt_nI, eq_nI, fI_le, fI_eq, st_ne, st_at, iT, iF, Nat.zero_add, Nat.add_zero, not_true_eq_false, not_false_eq_true, true_and, and_true, false_and, and_false, or_true, true_or, or_false, false_or, Nat.reduceEqDiff, Nat.reduceLeDiff, Nat.reduceLT, Nat.reduceAdd, Nat.reduceSub, Nat.reduceMul, Nat.reduceDiv, Nat.reduceMod, ↓reduceIte, Nat.le_refl, e]
      · intro m i _ hi _
        simp only [fX12_goBack_27_s]
        unfold fX12_goBack_27b
        have e2 : cpr σ 136 0 i (fun k => σ 149 (31 * j + k)) 149 (31 * j + i) = σ 149 (31 * j + i) := by rw [cpr_ne _ _ _ _ (by omega)]
        have s := cpr_st σ 136 0 i (fun k => σ 149 (31 * j + k))
        rw [Nat.zero_add] at s
        simp (disch := omega) only [lt_eq, bi_some, bv_some, ↓lim1, pk_m1f, fI_add1, li0, li1, li2, li3, li4, li5, li6, li7, li8, li9, li10, li12, li15, li16, li19, li20, li26, li30, li31, li32, li48, li57, li59, li60, li64, li99, li100, li128, li240, li255, li480, li999, li1000, li9000, li9999, liF, nI_add, sb_nI, pk_mul, dv_nI, cl_nI, inbT, le_nI, lt_nI, eq_nI, fI_le, fI_eq, st_ne, st_at, iT, iF, Nat.zero_add, Nat.add_zero, not_true_eq_false, not_false_eq_true, true_and, and_true, false_and, and_false, or_true, true_or, or_false, false_or, Nat.reduceEqDiff, Nat.reduceLeDiff, Nat.reduceLT, Nat.reduceAdd, Nat.reduceSub, Nat.reduceMul, Nat.reduceDiv, Nat.reduceMod, ↓reduceIte, show ¬ 30 ≤ i by omega, e2, s]
  · rw [if_neg q, if_neg q, if_pos (by decide)]
    exact OkM.same h rfl
