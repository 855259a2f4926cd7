/-! the class's calls: undo, returned, write, tear, keep, goBack -/
theorem StC.cg {V P : Nat} {w w' : Nat → Nat} {n : Nat} {σ : Sg} (hP : P ≤ 7) (hV : V ≤ 4) (x : StC V P w n σ) (e : ∀ k, k < 30 → w' k = w k) : StC V P w' n σ := by
  obtain ⟨⟨x1, x2, x3, x4, x5⟩, y, z⟩ := x
  refine ⟨⟨?_, ?_, ?_, ?_, ?_⟩, fun p hp => ⟨?_, ?_, ?_⟩, fun v hv => ?_⟩
  · rw [e 0 (by omega)]; exact x1
  · rw [e 2 (by omega)]; exact x2
  · rw [e 1 (by omega)]; exact x3
  · rw [e 4 (by omega)]; exact x4
  · rw [e 3 (by omega)]; exact x5
  · rw [e (12 + p) (by omega)]; exact (y p hp).1
  · rw [e (19 + p) (by omega)]; exact (y p hp).2.1
  · rw [e (5 + p) (by omega)]; exact (y p hp).2.2
  · rw [e (26 + v) (by omega)]; exact z v hv
section Calls2
variable {a : Ab} {h : Nat} {σ : Sg}
theorem C_undo (x : RelC a h σ) (g : Gb a) : OkK σ (fX11_undo σ) (sp_undo a) := by
  have hu := gb_undos g
  have x0 := x
  obtain ⟨x1, x2, ⟨p0, o, p1, p2, p3⟩, x4, x5, x6, x7, x8⟩ := x
  unfold fX11_undo sp_undo
  rw [p0]
  by_cases q : a 5 3 = 0
  · rw [if_pos q, if_pos (show nI (a 5 3) = 0 by rw [q]; rfl)]
    exact OkK.same x0 rfl
  · have q2 : ¬ nI (a 5 3) = 0 := by rw [li0, eq_nI (by omega) (by omega)]; exact q
    rw [if_neg q, if_neg q2]
    unfold fX7_restore
    rw [p0, if_neg q2, li1, sb_nI (by omega), lt_eq]
    generalize hT : st σ 17 0 (nI (a 5 3 - 1)) = T
    have to : ∀ m, m ≠ 17 → T m = σ m := fun m hm => by rw [← hT, st_ne hm]
    have t0 : T 17 0 = nI (a 5 3 - 1) := by rw [← hT, st_at, if_pos rfl]
    have t1 : T 17 1 = nI o := by rw [← hT, st_at, if_neg (by omega)]; exact p2
    have hm : (o + (a 5 3 - 1)) % 16 < 16 := Nat.mod_lt _ (by omega)
    have ec : (nI ((o + (a 5 3 - 1)) % 16)).toNatClampNeg = (o + (a 5 3 - 1)) % 16 := cl_nI (by omega)
    obtain ⟨τ, c1, c2, c3⟩ := cCopy (n0 := 11) (n1 := 19 + 5 * ((o + (a 5 3 - 1)) % 16)) (by omega) (gb_P g) (gb_V g) ((p3 (a 5 3 - 1) (by omega)).to (τ := T) (fun m h1 h2 => to m (by omega)))
    rw [t0, t1, nI_add, rm16 (by omega), if_pos (inb_nI hm (by omega)), ec, gk_is _ (kd19 hm), c1, bv_some, bv_some, c3 17 (by omega), t0]
    have tm : ∀ m, m < 11 ∨ 18 ≤ m ∨ m = 16 → τ m = σ m := fun m hm => by rw [c3 m (by omega), to m (by omega)]
    have e5 : ∀ k, k ≠ 3 → undA a 5 k = a 5 k := fun k hk => va_up_ne _ _ hk
    have e53 : undA a 5 3 = a 5 3 - 1 := va_up_self (a 5) 3 _
    have ep : ∀ i, undA a (20 + i) = a (20 + i) := fun i => by unfold undA; rw [va_up_ne _ _ (by omega), va_up_ne _ _ (by omega)]
    have ei : (fun i => undA a (40 + i)) = fun i => a (40 + i) := by funext i; unfold undA; rw [va_up_ne _ _ (by omega), va_up_ne _ _ (by omega)]
    have ek : (fun i => undA a 5 (6 + i)) = fun i => a 5 (6 + i) := by funext i; exact e5 _ (by omega)
    refine OkK.mk (h := h) rfl ⟨x1.to (fun m hm => tm m (by omega)), c2, ⟨?_, o, p1, ?_, fun i hi => ?_⟩, ?_, ?_, x6.to (fun m h1 h2 => tm m (by omega)), x7.to (fun m h1 h2 => tm m (by omega)), x8.to (fun m h1 h2 => tm m (by omega))⟩ (fun n hn => tm n (by omega))
    · rw [c3 17 (by omega), t0, e53]
    · rw [c3 17 (by omega), t1]
    · rw [e53] at hi
      show StC _ _ (undA a (20 + i)) _ _
      rw [ep i]
      have h16 : (o + i) % 16 < 16 := Nat.mod_lt _ (by omega)
      exact (p3 i (by omega)).to (fun m h1 h2 => tm m (by omega))
    · show ImC (a 0 3) (a 0 4) (fun i => undA a 5 (6 + i)) (fun i => undA a (40 + i)) τ
      rw [ei, ek]; exact x4.to (fun m h1 h2 => tm m (by omega))
    · rw [tm 113 (by omega)]; exact x5
theorem C_returned (x : RelC a h σ) (g : Gb a) (y : Int32) : OkK σ (fX11_returned σ y) (sp_returned a y) := by
  have hR := gb_rets g
  have hV := gb_V g
  have x0 := x
  obtain ⟨x1, x2, x3, x4, x5, ⟨r0, r1⟩, x7, x8⟩ := x
  unfold fX11_returned fX11_returned_11 sp_returned
  rw [rgT (by omega) li999, hl_gk x1, hl_there x1, r0]
  by_cases q : isR 1000 y
  · rw [if_pos q, if_pos q]
    obtain ⟨n, hn, rfl⟩ := ix_of (by omega) q
    by_cases z : a 0 1 = 0
    · rw [if_pos z, if_pos z, if_pos (by decide)]
      exact OkK.same x0 rfl
    · rw [if_neg z, if_neg z, if_neg (by decide)]
      by_cases w : a 5 4 = 6
      · rw [if_pos w, if_neg (show ¬ nI (a 5 4) < 6 by rw [w]; decide)]
        exact OkK.same x0 rfl
      · have hlt : nI (a 5 4) < 6 := by rw [li6, lt_nI (by omega) (by omega)]; omega
        have ec : (nI (a 5 4)).toNatClampNeg = a 5 4 := cl_nI (by omega)
        rw [if_neg w, if_pos hlt, dn_n (by omega)]
        unfold fX9_add
        rw [r0, if_pos hlt, if_pos (inb_nI (show a 5 4 < 6 by omega) (by omega)), ec, lt_eq]
        generalize hT : st σ 115 (a 5 4) (nI n) = T
        have to : ∀ m, m ≠ 115 → T m = σ m := fun m hm => by rw [← hT, st_ne hm]
        have e4 : nI (a 5 4) * 4 = nI (4 * a 5 4) := by rw [li4, pk_mul, Nat.mul_comm]
        have ec4 : (nI (4 * a 5 4)).toNatClampNeg = 4 * a 5 4 := cl_nI (by omega)
        have d0 : (0 : Int32).toNatClampNeg = 0 := by decide
        have d4 : (4 : Int32).toNatClampNeg = 4 := by decide
        rw [to 114 (by omega), r0]
        simp only [e4, ec4, d0, d4]
        rw [if_pos (show ¬ (0 : Int32) < 0 ∧ ¬ nI (4 * a 5 4) < 0 ∧ ¬ (4 : Int32) < 0 ∧ 0 + 4 ≤ ln 15 ∧ 4 * a 5 4 + 4 ≤ 24 from ⟨by decide, nI_pos (by omega), by decide, by rw [show ln 15 = 4 from ln_15]; omega, by omega⟩), lt_eq]
        generalize hU : sr T 116 (va_cpy (T 15) (T 116) 0 (4 * a 5 4) 4) = U
        have uo : ∀ m, m ≠ 115 → m ≠ 116 → U m = σ m := fun m h1 h2 => by rw [← hU, sr_ne h2, to m h1]
        rw [uo 114 (by omega) (by omega), r0, li1, nI_add, lt_eq, bv_some]
        have tm : ∀ m, m < 114 ∨ 117 ≤ m → st U 114 0 (nI (a 5 4 + 1)) m = σ m := fun m hm => by rw [st_ne (by omega), uo m (by omega) (by omega)]
        have e115 : st U 114 0 (nI (a 5 4 + 1)) 115 = T 115 := by rw [st_ne (by omega), ← hU, sr_ne (by omega)]
        have e116 : st U 114 0 (nI (a 5 4 + 1)) 116 = va_cpy (σ 15) (σ 116) 0 (4 * a 5 4) 4 := by rw [st_ne (by omega), ← hU, sr_at, to 15 (by omega), to 116 (by omega)]
        rw [st_at, if_pos rfl]
        refine OkK.mk (h := h) rfl ?_ (fun m hm => tm m (by omega))
        generalize hB : va_up (va_up (va_up a 7 (va_up (a 7) (a 5 4) n)) 8 (fun k => if 4 * a 5 4 ≤ k ∧ k < 4 * a 5 4 + 4 then a 4 (26 + (k - 4 * a 5 4)) else a 8 k)) 5 (va_up (a 5) 4 (a 5 4 + 1)) = b
        have eo : ∀ m, m ≠ 5 → m ≠ 7 → m ≠ 8 → b m = a m := fun m h5 h7 h8 => by rw [← hB, va_up_ne _ _ h5, va_up_ne _ _ h8, va_up_ne _ _ h7]
        have e5 : ∀ k, k ≠ 4 → b 5 k = a 5 k := fun k hk => by rw [← hB]; exact va_up_ne _ _ hk
        have e54 : b 5 4 = a 5 4 + 1 := by rw [← hB]; exact va_up_self (a 5) 4 _
        have e7 : b 7 = va_up (a 7) (a 5 4) n := by rw [← hB]; rfl
        have e8 : b 8 = fun k => if 4 * a 5 4 ≤ k ∧ k < 4 * a 5 4 + 4 then a 4 (26 + (k - 4 * a 5 4)) else a 8 k := by rw [← hB]; rfl
        have ep : (fun i => b (20 + i)) = fun i => a (20 + i) := by funext i; exact eo _ (by omega) (by omega) (by omega)
        have ei : (fun i => b (40 + i)) = fun i => a (40 + i) := by funext i; exact eo _ (by omega) (by omega) (by omega)
        have ek : (fun i => b 5 (6 + i)) = fun i => a 5 (6 + i) := by funext i; exact e5 _ (by omega)
        unfold RelC Hl
        rw [ep, ei, ek, eo 0 (by omega) (by omega) (by omega), eo 1 (by omega) (by omega) (by omega), eo 2 (by omega) (by omega) (by omega), eo 3 (by omega) (by omega) (by omega), eo 4 (by omega) (by omega) (by omega), eo 6 (by omega) (by omega) (by omega), eo 9 (by omega) (by omega) (by omega), eo 10 (by omega) (by omega) (by omega), e7, e8, e54, e5 0 (by omega), e5 1 (by omega), e5 2 (by omega), e5 3 (by omega), e5 5 (by omega)]
        refine ⟨x1.to (fun m hm => tm m (by omega)), x2.to (fun m h1 h2 => tm m (by omega)), x3.to (fun m h1 h2 => tm m (by omega)), x4.to (fun m h1 h2 => tm m (by omega)), by rw [tm 113 (by omega)]; exact x5, ⟨by rw [st_at, if_pos rfl], fun k hk => ⟨?_, fun v hv => ?_⟩⟩, x7.to (fun m h1 h2 => tm m (by omega)), x8.to (fun m h1 h2 => tm m (by omega))⟩
        · rw [e115, ← hT, st_at]
          unfold va_up
          by_cases c : k = a 5 4
          · rw [if_pos c, if_pos c]
          · rw [if_neg c, if_neg c]; exact (r1 k (by omega)).1
        · rw [e116]
          unfold va_cpy
          show _ = nI (if 4 * a 5 4 ≤ 4 * k + v ∧ 4 * k + v < 4 * a 5 4 + 4 then a 4 (26 + (4 * k + v - 4 * a 5 4)) else a 8 (4 * k + v))
          by_cases c : k = a 5 4
          · rw [if_pos (by omega), if_pos (by omega), show 0 + (4 * k + v - 4 * a 5 4) = v by omega, show 4 * k + v - 4 * a 5 4 = v by omega]
            exact cs_bear ⟨x1, x2⟩ hv
          · rw [if_neg (by omega), if_neg (by omega)]
            exact (r1 k (by omega)).2 v hv
  · rw [if_neg q, if_neg q]
    exact OkK.same x0 rfl
theorem C_write (x : RelC a h σ) (g : Gb a) (y z : Int32) : OkK σ (fX11_write σ y z) (sp_write a y z) := by
  have hB := gb_booked g
  have hP := gb_P g
  have x0 := x
  obtain ⟨x1, x2, x3, x4, x5, x6, ⟨r0, r1⟩, x8⟩ := x
  unfold fX11_write fX11_write_25 sp_write
  rw [cPers x1, bi_some]
  by_cases q : isR (a 0 4) y
  · rw [if_pos q, if_pos q, if_neg (by decide), rgT (by omega) li9999]
    by_cases w : isR 10000 z
    · rw [if_pos w, if_pos w, r0]
      by_cases u : a 5 5 = 15
      · rw [if_pos u, if_neg (show ¬ nI (a 5 5) < 15 by rw [u]; decide)]
        exact OkK.same x0 rfl
      · have hlt : nI (a 5 5) < 15 := by rw [li15, lt_nI (by omega) (by omega)]; omega
        have ec : (nI (a 5 5)).toNatClampNeg = a 5 5 := cl_nI (by omega)
        obtain ⟨p, hp, rfl⟩ := ix_of (by omega) q
        obtain ⟨n, hn, rfl⟩ := ix_of (by omega) w
        rw [if_neg u, if_pos hlt, dn_n (by omega), dn_n (by omega)]
        unfold fX1_add
        rw [r0, if_pos hlt, if_pos (inb_nI (show a 5 5 < 15 by omega) (by omega)), ec, lt_eq, st_ne (show 117 ≠ 118 by omega), r0, if_pos (inb_nI (show a 5 5 < 15 by omega) (by omega)), ec, lt_eq, st_ne (show 117 ≠ 119 by omega), st_ne (show 117 ≠ 118 by omega), r0, li1, nI_add, lt_eq, bv_some]
        generalize hT : st (st (st σ 118 (a 5 5) (nI p)) 119 (a 5 5) (nI n)) 117 0 (nI (a 5 5 + 1)) = T
        have tm : ∀ m, m < 117 ∨ 120 ≤ m → T m = σ m := fun m hm => by rw [← hT, st_ne (by omega), st_ne (by omega), st_ne (by omega)]
        have e117 : T 117 0 = nI (a 5 5 + 1) := by rw [← hT, st_at, if_pos rfl]
        rw [e117]
        refine OkK.mk (h := h) rfl ?_ (fun m hm => tm m (by omega))
        generalize hBB : va_up (va_up (va_up a 9 (va_up (a 9) (a 5 5) p)) 10 (va_up (a 10) (a 5 5) n)) 5 (va_up (a 5) 5 (a 5 5 + 1)) = b
        have eo : ∀ m, m ≠ 5 → m ≠ 9 → m ≠ 10 → b m = a m := fun m h5 h7 h8 => by rw [← hBB, va_up_ne _ _ h5, va_up_ne _ _ h8, va_up_ne _ _ h7]
        have e5 : ∀ k, k ≠ 5 → b 5 k = a 5 k := fun k hk => by rw [← hBB]; exact va_up_ne _ _ hk
        have e55 : b 5 5 = a 5 5 + 1 := by rw [← hBB]; exact va_up_self (a 5) 5 _
        have e9 : b 9 = va_up (a 9) (a 5 5) p := by rw [← hBB]; rfl
        have e10 : b 10 = va_up (a 10) (a 5 5) n := by rw [← hBB]; rfl
        have ep : (fun i => b (20 + i)) = fun i => a (20 + i) := by funext i; exact eo _ (by omega) (by omega) (by omega)
        have ei : (fun i => b (40 + i)) = fun i => a (40 + i) := by funext i; exact eo _ (by omega) (by omega) (by omega)
        have ek : (fun i => b 5 (6 + i)) = fun i => a 5 (6 + i) := by funext i; exact e5 _ (by omega)
        unfold RelC Hl
        rw [ep, ei, ek, eo 0 (by omega) (by omega) (by omega), eo 1 (by omega) (by omega) (by omega), eo 2 (by omega) (by omega) (by omega), eo 3 (by omega) (by omega) (by omega), eo 4 (by omega) (by omega) (by omega), eo 6 (by omega) (by omega) (by omega), eo 7 (by omega) (by omega) (by omega), eo 8 (by omega) (by omega) (by omega), e9, e10, e55, e5 0 (by omega), e5 1 (by omega), e5 2 (by omega), e5 3 (by omega), e5 4 (by omega)]
        refine ⟨x1.to (fun m hm => tm m (by omega)), x2.to (fun m h1 h2 => tm m (by omega)), x3.to (fun m h1 h2 => tm m (by omega)), x4.to (fun m h1 h2 => tm m (by omega)), by rw [tm 113 (by omega)]; exact x5, x6.to (fun m h1 h2 => tm m (by omega)), ⟨e117, fun k hk => ⟨?_, ?_⟩⟩, x8.to (fun m h1 h2 => tm m (by omega))⟩
        · rw [← hT, st_ne (by omega), st_ne (by omega), st_at]
          unfold va_up
          by_cases c : k = a 5 5
          · rw [if_pos c, if_pos c]
          · rw [if_neg c, if_neg c]; exact (r1 k (by omega)).1
        · rw [← hT, st_ne (by omega), st_at]
          unfold va_up
          by_cases c : k = a 5 5
          · rw [if_pos c, if_pos c]
          · rw [if_neg c, if_neg c, st_ne (by omega)]; exact (r1 k (by omega)).2
    · rw [if_neg w, if_neg w]
      exact OkK.same x0 rfl
  · rw [if_neg q, if_neg q, if_pos (by decide)]
    exact OkK.same x0 rfl
theorem C_tear (x : RelC a h σ) (g : Gb a) : OkK σ (fX11_tear σ) (sp_tear a) := by
  have hB := gb_booked g
  have hR := gb_rets g
  obtain ⟨x1, x2, x3, x4, x5, ⟨r0, r1⟩, ⟨b0, b1⟩, x8⟩ := x
  unfold fX11_tear sp_tear
  rw [r0, b0, nI_add, lt_eq, lt_eq, lt_eq]
  have tm : ∀ m, m ≠ 114 → m ≠ 117 → st (st σ 114 0 0) 117 0 0 m = σ m := fun m h1 h2 => by rw [st_ne h2, st_ne h1]
  generalize hBB : va_up a 5 (va_up (va_up (a 5) 4 0) 5 0) = b
  have eo : ∀ m, m ≠ 5 → b m = a m := fun m h5 => by rw [← hBB, va_up_ne _ _ h5]
  have e5 : ∀ k, k ≠ 5 → k ≠ 4 → b 5 k = a 5 k := fun k hk h4 => by
    rw [← hBB]
    show va_up (va_up (a 5) 4 0) 5 0 k = _
    rw [va_up_ne _ _ hk, va_up_ne _ _ h4]
  have e54 : b 5 4 = 0 := by rw [← hBB]; rfl
  have e55 : b 5 5 = 0 := by rw [← hBB]; rfl
  have ep : (fun i => b (20 + i)) = fun i => a (20 + i) := by funext i; exact eo _ (by omega)
  have ei : (fun i => b (40 + i)) = fun i => a (40 + i) := by funext i; exact eo _ (by omega)
  have ek : (fun i => b 5 (6 + i)) = fun i => a 5 (6 + i) := by funext i; exact e5 _ (by omega) (by omega)
  refine OkK.mk (h := h) rfl ?_ (fun m hm => tm m (by omega) (by omega))
  unfold RelC Hl
  rw [ep, ei, ek, eo 0 (by omega), eo 1 (by omega), eo 2 (by omega), eo 3 (by omega), eo 4 (by omega), eo 6 (by omega), eo 7 (by omega), eo 8 (by omega), eo 9 (by omega), eo 10 (by omega), e54, e55, e5 0 (by omega) (by omega), e5 1 (by omega) (by omega), e5 2 (by omega) (by omega), e5 3 (by omega) (by omega)]
  refine ⟨x1.to (fun m hm => tm m (by omega) (by omega)), x2.to (fun m h1 h2 => tm m (by omega) (by omega)), x3.to (fun m h1 h2 => tm m (by omega) (by omega)), x4.to (fun m h1 h2 => tm m (by omega) (by omega)), by rw [tm 113 (by omega) (by omega)]; exact x5, ⟨?_, fun k hk => by omega⟩, ⟨?_, fun k hk => by omega⟩, x8.to (fun m h1 h2 => tm m (by omega) (by omega))⟩
  · rw [st_ne (by omega), st_at, if_pos rfl]; rfl
  · rw [st_at, if_pos rfl]; rfl
theorem C_keep (x : RelC a h σ) (g : Gb a) (y : Int32) : OkK σ (fX11_keep σ y) (sp_keep a y) := by
  have x0 := x
  obtain ⟨x1, x2, ⟨p0, o, p1, p2, p3⟩, x4, x5, x6, x7, x8⟩ := x
  unfold fX11_keep fX11_keep_9 sp_keep
  rw [rgL li2]
  by_cases q : isR 2 y
  · rw [if_pos q, if_pos q]
    obtain ⟨i, hi, rfl⟩ := ix_of (by omega) q
    have ec : (nI i).toNatClampNeg = i := cl_nI (by omega)
    obtain ⟨τ, c1, c2, c3⟩ := cCopy (n0 := 103 + 5 * i) (n1 := 11) (by omega) (gb_P g) (gb_V g) x2
    unfold fX5_take fX7_forget
    rw [rgL li2, if_pos q, if_pos (inb_nI hi (by omega))]
    simp only [ec]
    rw [gk_is _ (kd103 hi), c1, bv_some, if_pos (inb_nI hi (by omega)), lt_eq, if_pos (inb_nI hi (by omega)), lt_eq, bv_some, lt_eq, bv_some, x5, dn_n (by omega)]
    generalize hT : st (st (st τ 102 i (nI (a 5 0))) 100 i 1) 17 0 0 = T
    have tm : ∀ m, m ≠ 17 → m ≠ 100 → m ≠ 102 → T m = τ m := fun m h1 h2 h3 => by rw [← hT, st_ne h1, st_ne h2, st_ne h3]
    have ts : ∀ m, m ≠ 17 → (m < 99 ∨ 113 ≤ m) → T m = σ m := fun m h1 h2 => by rw [tm m h1 (by omega) (by omega), c3 m (by omega)]
    refine OkK.mk (h := h) rfl ?_ (fun m hm => ts m (by omega) (by omega))
    generalize hBB : va_up (va_up a (40 + i) (va_up (a 4) 30 (a 5 0))) 5 (va_up (va_up (a 5) (6 + i) 1) 3 0) = b
    have eo : ∀ m, m ≠ 5 → m ≠ 40 + i → b m = a m := fun m h5 h4 => by rw [← hBB, va_up_ne _ _ h5, va_up_ne _ _ h4]
    have e5 : ∀ k, k ≠ 3 → k ≠ 6 + i → b 5 k = a 5 k := fun k hk h4 => by
      rw [← hBB]
      show va_up (va_up (a 5) (6 + i) 1) 3 0 k = _
      rw [va_up_ne _ _ hk, va_up_ne _ _ h4]
    have e53 : b 5 3 = 0 := by rw [← hBB]; rfl
    have e56 : b 5 (6 + i) = 1 := by
      rw [← hBB]
      show va_up (va_up (a 5) (6 + i) 1) 3 0 (6 + i) = _
      rw [va_up_ne _ _ (by omega), va_up_self]
    have e40 : b (40 + i) = va_up (a 4) 30 (a 5 0) := by rw [← hBB, va_up_ne _ _ (by omega), va_up_self]
    unfold RelC Hl
    rw [eo 0 (by omega) (by omega), eo 1 (by omega) (by omega), eo 2 (by omega) (by omega), eo 3 (by omega) (by omega), eo 4 (by omega) (by omega), eo 6 (by omega) (by omega), eo 7 (by omega) (by omega), eo 8 (by omega) (by omega), eo 9 (by omega) (by omega), eo 10 (by omega) (by omega), e53, e5 0 (by omega) (by omega), e5 1 (by omega) (by omega), e5 2 (by omega) (by omega), e5 4 (by omega) (by omega), e5 5 (by omega) (by omega)]
    refine ⟨x1.to (fun m hm => ts m (by omega) (by omega)), x2.to (fun m h1 h2 => ts m (by omega) (by omega)), ⟨?_, o, p1, ?_, fun k hk => by omega⟩, fun k hk => ?_, by rw [ts 113 (by omega) (by omega)]; exact x5, x6.to (fun m h1 h2 => ts m (by omega) (by omega)), x7.to (fun m h1 h2 => ts m (by omega) (by omega)), x8.to (fun m h1 h2 => ts m (by omega) (by omega))⟩
    · rw [← hT, st_at, if_pos rfl]; rfl
    · rw [← hT, st_at, if_neg (by omega), st_ne (by omega), st_ne (by omega), c3 17 (by omega)]; exact p2
    · show T 100 k = nI (b 5 (6 + k)) ∧ (b 5 (6 + k) = 1 → T 102 k = nI (b (40 + k) 30) ∧ StC _ _ (b (40 + k)) _ T)
      by_cases c : k = i
      · subst c
        rw [e56, e40]
        refine ⟨?_, fun _ => ⟨?_, ?_⟩⟩
        · rw [← hT, st_ne (by omega), st_at, if_pos rfl]; rfl
        · rw [← hT, st_ne (by omega), st_ne (by omega), st_at, if_pos rfl, va_up_self]
        · exact (c2.to (fun m h1 h2 => tm m (by omega) (by omega) (by omega))).cg (gb_P g) (gb_V g) (fun k hk => va_up_ne _ _ (by omega))
      · rw [e5 (6 + k) (by omega) (by omega), eo (40 + k) (by omega) (by omega)]
        have := x4 k hk
        refine ⟨?_, fun hh => ⟨?_, ?_⟩⟩
        · rw [← hT, st_ne (by omega), st_at, if_neg c, st_ne (by omega), c3 100 (by omega)]; exact this.1
        · rw [← hT, st_ne (by omega), st_ne (by omega), st_at, if_neg c, c3 102 (by omega)]; exact (this.2 hh).1
        · exact (this.2 hh).2.to (fun m h1 h2 => by rw [tm m (by omega) (by omega) (by omega), c3 m (by omega)])
  · rw [if_neg q, if_neg q]
    exact OkK.same x0 rfl
theorem C_goBack (x : RelC a h σ) (g : Gb a) (y : Int32) : OkK σ (fX11_goBack σ y) (sp_goBack a y) := by
  have x0 := x
  obtain ⟨x1, x2, ⟨p0, o, p1, p2, p3⟩, x4, x5, x6, x7, x8⟩ := x
  unfold fX11_goBack fX11_goBack_9 sp_goBack
  rw [rgL li2]
  by_cases q : isR 2 y
  · rw [if_pos q, if_pos q]
    obtain ⟨i, hi, rfl⟩ := ix_of (by omega) q
    have ec : (nI i).toNatClampNeg = i := cl_nI (by omega)
    have im := x4 i hi
    have im1 : σ 100 i = nI (a 5 (6 + i)) := im.1
    have gk1 := (g.2.2.2.2.2.2.2.2 i hi).1
    rw [if_pos (inb_nI hi (by omega)), if_pos (inb_nI hi (by omega))]
    simp only [ec]
    rw [im1, dn_n (by omega)]
    by_cases z : a 5 (6 + i) = 0
    · rw [if_pos z, if_pos (show nI (a 5 (6 + i)) = 0 by rw [z]; rfl)]
      exact OkK.same x0 rfl
    · have z1 : a 5 (6 + i) = 1 := by omega
      have im2 := im.2 z1
      obtain ⟨τ, c1, c2, c3⟩ := cCopy (n0 := 11) (n1 := 103 + 5 * i) (by omega) (gb_P g) (gb_V g) im2.2
      unfold fX7_forget
      rw [if_neg z, if_neg (show ¬ nI (a 5 (6 + i)) = 0 by rw [z1]; decide), gk_is _ (kd103 hi), c1, bv_some, if_pos (inb_nI hi (by omega)), lt_eq, lt_eq, bv_some, c3 102 (by omega), im2.1]
      generalize hT : st (st τ 113 0 (nI (a (40 + i) 30))) 17 0 0 = T
      have tm : ∀ m, m ≠ 17 → m ≠ 113 → T m = τ m := fun m h1 h2 => by rw [← hT, st_ne h1, st_ne h2]
      have ts : ∀ m, m ≠ 17 → m ≠ 113 → (m < 11 ∨ 16 ≤ m) → T m = σ m := fun m h1 h2 h3 => by rw [tm m h1 h2, c3 m (by omega)]
      refine OkK.mk (h := h) rfl ?_ (fun m hm => ts m (by omega) (by omega) (by omega))
      generalize hBB : va_up (va_up a 4 (a (40 + i))) 5 (va_up (va_up (a 5) 0 (a (40 + i) 30)) 3 0) = b
      have eo : ∀ m, m ≠ 5 → m ≠ 4 → b m = a m := fun m h5 h4 => by rw [← hBB, va_up_ne _ _ h5, va_up_ne _ _ h4]
      have e5 : ∀ k, k ≠ 3 → k ≠ 0 → b 5 k = a 5 k := fun k hk h4 => by
        rw [← hBB]
        show va_up (va_up (a 5) 0 (a (40 + i) 30)) 3 0 k = _
        rw [va_up_ne _ _ hk, va_up_ne _ _ h4]
      have e53 : b 5 3 = 0 := by rw [← hBB]; rfl
      have e50 : b 5 0 = a (40 + i) 30 := by rw [← hBB]; rfl
      have e4 : b 4 = a (40 + i) := by rw [← hBB]; rfl
      have ei : (fun i => b (40 + i)) = fun i => a (40 + i) := by funext i; exact eo _ (by omega) (by omega)
      have ek : (fun i => b 5 (6 + i)) = fun i => a 5 (6 + i) := by funext i; exact e5 _ (by omega) (by omega)
      unfold RelC Hl
      rw [ei, ek, eo 0 (by omega) (by omega), eo 1 (by omega) (by omega), eo 2 (by omega) (by omega), eo 3 (by omega) (by omega), e4, eo 6 (by omega) (by omega), eo 7 (by omega) (by omega), eo 8 (by omega) (by omega), eo 9 (by omega) (by omega), eo 10 (by omega) (by omega), e53, e50, e5 1 (by omega) (by omega), e5 2 (by omega) (by omega), e5 4 (by omega) (by omega), e5 5 (by omega) (by omega)]
      refine ⟨x1.to (fun m hm => ts m (by omega) (by omega) (by omega)), c2.to (fun m h1 h2 => tm m (by omega) (by omega)), ⟨?_, o, p1, ?_, fun k hk => by omega⟩, x4.to (fun m h1 h2 => ts m (by omega) (by omega) (by omega)), by rw [← hT, st_ne (by omega), st_at, if_pos rfl], x6.to (fun m h1 h2 => ts m (by omega) (by omega) (by omega)), x7.to (fun m h1 h2 => ts m (by omega) (by omega) (by omega)), x8.to (fun m h1 h2 => ts m (by omega) (by omega) (by omega))⟩
      · rw [← hT, st_at, if_pos rfl]; rfl
      · rw [← hT, st_at, if_neg (by omega), st_ne (by omega), c3 17 (by omega)]; exact p2
  · rw [if_neg q, if_neg q]
    exact OkK.same x0 rfl
end Calls2
