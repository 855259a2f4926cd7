/-! the class: the hills -/
theorem cBegin {d : Nat} (hd : d = 4 ∨ d = 125) (σ : Sg) : ∃ τ, fX10_begin 11 d σ = some τ ∧ (τ 11 0 = σ d 1 ∧ τ 11 1 = nI 0 ∧ τ 11 2 = nI 0 ∧ τ 11 3 = nI 0 ∧ τ 11 4 = nI 0) ∧ (∀ p, p < 7 → τ 12 p = nI 0 ∧ τ 13 p = nI 0 ∧ τ 14 p = σ (d + 3) p) ∧ (∀ v, v < 4 → τ 15 v = σ (d + 5) v) ∧ ∀ n, ¬ (11 ≤ n ∧ n ≤ 15) → τ n = σ n := by
  unfold fX10_begin
  rw [lt_eq, lt_eq, lt_eq, lt_eq, lt_eq]
  generalize hS : st (st (st (st (st σ 11 0 (σ d 1)) 11 1 0) 11 2 0) 11 3 0) 11 4 0 = S
  have sn : ∀ n, n ≠ 11 → S n = σ n := fun n hn => by rw [← hS, st_ne hn, st_ne hn, st_ne hn, st_ne hn, st_ne hn]
  obtain ⟨τ1, a1, a2, a3⟩ := cFill (n := 11 + 1) (N := 7) ln_12 (by omega) S
  obtain ⟨τ2, b1, b2, b3⟩ := cFill (n := 11 + 2) (N := 7) ln_13 (by omega) τ1
  have c0 : (0 : Int32).toNatClampNeg = 0 := by decide
  have c7 : (7 : Int32).toNatClampNeg = 7 := by decide
  have c4 : (4 : Int32).toNatClampNeg = 4 := by decide
  rw [a1, bv_some, b1, bv_some, c0, c7, c4]
  rw [if_pos (by decide), lt_eq, if_pos (by decide), lt_eq]
  generalize hU : sr τ2 (11 + 3) (va_cpy (τ2 (d + 3)) (τ2 (11 + 3)) 0 0 7) = U
  have un : ∀ n, n ≠ 14 → U n = τ2 n := fun n hn => by rw [← hU, sr_ne hn]
  have u14 : ∀ p, p < 7 → U 14 p = τ2 (d + 3) p := fun p hp => by rw [← hU, sr_at, cpy_at hp]
  have t2 : ∀ n, n ≠ 12 → n ≠ 13 → τ2 n = S n := fun n h1 h2 => by rw [b3 n (by omega), a3 n (by omega)]
  refine ⟨_, rfl, ?_, fun p hp => ⟨?_, ?_, ?_⟩, fun v hv => ?_, fun n hn => ?_⟩
  · rw [sr_ne (by omega), un 11 (by omega), t2 11 (by omega) (by omega), ← hS]
    refine ⟨?_, ?_, ?_, ?_, ?_⟩
    · rw [st_at, if_neg (by omega), st_at, if_neg (by omega), st_at, if_neg (by omega), st_at, if_neg (by omega), st_at, if_pos rfl]
    · rw [st_at, if_neg (by omega), st_at, if_neg (by omega), st_at, if_neg (by omega), st_at, if_pos rfl]; rfl
    · rw [st_at, if_neg (by omega), st_at, if_neg (by omega), st_at, if_pos rfl]; rfl
    · rw [st_at, if_neg (by omega), st_at, if_pos rfl]; rfl
    · rw [st_at, if_pos rfl]; rfl
  · rw [sr_ne (by omega), un 12 (by omega), b3 12 (by omega)]; exact a2 p hp
  · rw [sr_ne (by omega), un 13 (by omega)]; exact b2 p hp
  · rw [sr_ne (by omega), u14 p hp, t2 _ (by omega) (by omega), sn _ (by omega)]
  · rw [sr_at, cpy_at hv, un _ (by omega), t2 _ (by omega) (by omega), sn _ (by omega)]
  · rw [sr_ne (by omega), un n (by omega), t2 n (by omega) (by omega), sn n (by omega)]
theorem cForgetI (σ : Sg) : fX5_forget σ = some (st (st σ 100 0 0) 100 1 0) := by
  unfold fX5_forget
  obtain ⟨m, hm⟩ : ∃ m, FU = m + 3 := ⟨FU - 3, by have := FU_ge; omega⟩
  rw [hm, fX5_forget_2_s]
  unfold fX5_forget_2b
  have c0 : (0 : Int32).toNatClampNeg = 0 := by decide
  have c1 : (1 : Int32).toNatClampNeg = 1 := by decide
  rw [if_neg (by decide), if_pos (show inb 0 2 by decide), lt_eq, lt_eq, show (0 : Int32) + 1 = 1 by decide, fX5_forget_2_s]
  unfold fX5_forget_2b
  rw [if_neg (by decide), if_pos (show inb 1 2 by decide), lt_eq, lt_eq, show (1 : Int32) + 1 = 2 by decide, fX5_forget_2_s]
  unfold fX5_forget_2b
  rw [if_pos (by decide), c0, c1]
theorem C_hills {a : Ab} {h : Nat} {σ : Sg} (x : RelC a h σ) (g : Gb a) : OkK σ (fX11_hills σ) (sp_hills a) := by
  obtain ⟨⟨⟨n0, n1, n2⟩, x1⟩, x2, x3, x4, x5, x6, x7, ⟨t1, t2, t3⟩⟩ := x
  have hl := gb_len g
  generalize hd : 129 - h = d at n2
  have hd2 : d = 4 ∨ d = 125 := by omega
  have hhd : h = 129 - d := by omega
  have hln : ln (d + 6) = 4 := by rcases hd2 with q | q <;> subst q <;> decide +kernel
  have hkd : kd d = 4 := by rcases hd2 with q | q <;> subst q <;> decide +kernel
  have hkh : kd h = 4 := by rcases n0 with q | q <;> subst q <;> decide +kernel
  obtain ⟨τ, e, o1, o2, o3, o4, o5⟩ := cText hl g.2.2.2.2.1 (by omega) hln t1 t3
  unfold fX11_hills sp_hills
  rw [n2, dn_nI (by omega), gk_is _ hkd, e, bv_some]
  generalize rdl (a 6) (a 5 1) 241 r0A = Z at o3 o4 o5 ⊢
  obtain ⟨p0, oo, p1, p2, p3⟩ := x3
  by_cases q : Z.1 = 0
  · obtain ⟨⟨y1, y2, y3⟩, ⟨y4, y5, y6, y7, y8⟩, y9, y10, y11⟩ := o4 q
    obtain ⟨⟨w1, w2, w3, w4, w5, w6⟩, wv, wp⟩ := y1
    generalize Z.2.2 = r at y4 y5 y6 y7 y8 y9 y10 y11 w1 w2 w3 w4 w5 w6 wv wp ⊢
    have m3 : τ 3 0 = nI h := by rw [o1 3 (by omega) (by omega)]; exact n1
    have m0 : τ 0 8 = nI d := by rw [o1 0 (by omega) (by omega)]; exact n2
    rw [if_pos q, y2, if_pos (show nI 0 = 0 from rfl), m3, m0, dn_nI (by omega), dn_nI (by omega), gk_is _ hkh, gk_is _ hkd, lt_eq, lt_eq, st_ne (show 3 ≠ 0 by omega), st_at, if_pos rfl, dn_nI (by omega), gk_is _ hkd]
    generalize hS : st (st τ 3 0 (nI d)) 0 8 (nI h) = S
    have sn : ∀ n, n ≠ 0 → n ≠ 3 → S n = τ n := fun n h1 h2 => by rw [← hS, st_ne h1, st_ne h2]
    have s3 : S 3 0 = nI d := by rw [← hS, st_ne (by omega), st_at, if_pos rfl]
    have s0 : S 0 8 = nI h := by rw [← hS, st_at, if_pos rfl]
    obtain ⟨υ, f, ⟨f1, f2, f3, f4, f5⟩, f6, f7, f8⟩ := cBegin hd2 S
    rw [f, bv_some]
    unfold fX7_forget
    rw [lt_eq, bv_some, cForgetI, bv_some, lt_eq, lt_eq]
    generalize hU : st (st (st (st (st υ 17 0 0) 100 0 0) 100 1 0) 114 0 0) 117 0 0 = U
    have un : ∀ n, n ≠ 17 → n ≠ 100 → n ≠ 114 → n ≠ 117 → U n = υ n := fun n h1 h2 h3 h4 => by rw [← hU, st_ne h4, st_ne h3, st_ne h2, st_ne h2, st_ne h1]
    have us : ∀ n, n ≠ 17 → n ≠ 100 → n ≠ 114 → n ≠ 117 → n ≠ 0 → n ≠ 3 → ¬ (11 ≤ n ∧ n ≤ 15) → U n = τ n := fun n h1 h2 h3 h4 h5 h6 h7 => by rw [un n h1 h2 h3 h4, f8 n h7, sn n h5 h6]
    have u3 : U 3 0 = nI d := by rw [un 3 (by omega) (by omega) (by omega) (by omega), f8 3 (by omega)]; exact s3
    have ud : ∀ k, k < 7 → U (d + k) = τ (d + k) := fun k hk => us (d + k) (by omega) (by omega) (by omega) (by omega) (by omega) (by omega) (by omega)
    have ud0 : U d = τ d := ud 0 (by omega)
    rw [u3, dn_nI (by omega), gk_is _ hkd, ud0, y8]
    refine OkK.mk (h := d) rfl ⟨⟨⟨hd2, u3, ?_⟩, ⟨?_, fun p hp => ?_, fun v hv => ?_⟩⟩, ⟨⟨?_, ?_, ?_, ?_, ?_⟩, fun p hp => ?_, fun v hv => ?_⟩, ⟨?_, oo, p1, ?_, fun i hi => by cases hi⟩, fun i hi => ⟨?_, fun c => by cases i with | zero => cases c | succ i => cases i with | zero => cases c | succ i => omega⟩, ?_, ⟨?_, fun k hk => by cases hk⟩, ⟨?_, fun k hk => by cases hk⟩, ⟨?_, ?_, fun k hk => by cases hk⟩⟩ (fun n hn => ?_)
    · rw [un 0 (by omega) (by omega) (by omega) (by omega), f8 0 (by omega), s0, hhd]
    · rw [ud0]; exact ⟨y4, y5, y6, y7, y8⟩
    · rw [ud 1 (by omega), ud 2 (by omega), ud 4 (by omega)]; exact ⟨(y9 p hp).1, (y9 p hp).2.1, (y9 p hp).2.2.2⟩
    · have hv : v < r 0 3 := hv
      rw [ud 6 (by omega)]; exact y11 v (by omega)
    · rw [un 11 (by omega) (by omega) (by omega) (by omega), f1, sn d (by omega) (by omega)]; exact y5
    · rw [un 11 (by omega) (by omega) (by omega) (by omega)]; exact f2
    · rw [un 11 (by omega) (by omega) (by omega) (by omega)]; exact f3
    · rw [un 11 (by omega) (by omega) (by omega) (by omega)]; exact f4
    · rw [un 11 (by omega) (by omega) (by omega) (by omega)]; exact f5
    · have hp : p < r 0 4 := hp
      obtain ⟨g1, g2, g3⟩ := f6 p (by omega)
      show U 12 p = nI (w0 r (12 + p)) ∧ U 13 p = nI (w0 r (19 + p)) ∧ U 14 p = nI (w0 r (5 + p))
      rw [un 12 (by omega) (by omega) (by omega) (by omega), un 13 (by omega) (by omega) (by omega) (by omega), un 14 (by omega) (by omega) (by omega) (by omega), g1, g2, g3, sn _ (by omega) (by omega), (y9 p hp).2.2.1]
      unfold w0
      rw [if_neg (by omega), if_neg (by omega), if_neg (by omega), if_neg (by omega), if_neg (by omega), if_neg (by omega), if_neg (by omega), if_pos (by omega), Nat.add_sub_cancel_left]
      exact ⟨rfl, rfl, rfl⟩
    · have hv : v < r 0 3 := hv
      show U 15 v = nI (w0 r (26 + v))
      rw [un 15 (by omega) (by omega) (by omega) (by omega), f7 v (by omega), sn _ (by omega) (by omega), y10 v hv]
      unfold w0
      rw [if_neg (by omega), if_neg (by omega), if_pos (by omega), Nat.add_sub_cancel_left]
    · rw [← hU, st_ne (by omega), st_ne (by omega), st_ne (by omega), st_ne (by omega), st_at, if_pos rfl]; rfl
    · rw [← hU, st_ne (by omega), st_ne (by omega), st_ne (by omega), st_ne (by omega), st_at, if_neg (by omega), f8 17 (by omega), sn 17 (by omega) (by omega), o1 17 (by omega) (by omega)]; exact p2
    · have e5 : ∀ k, newA a r 5 (6 + k) = 0 := fun k => by
        show (if 6 + k = 0 then a 5 0 else 0) = 0
        rw [if_neg (by omega)]
      show U 100 i = nI (newA a r 5 (6 + i))
      rw [e5, ← hU, st_ne (by omega), st_ne (by omega), st_at]
      by_cases c : i = 1
      · rw [if_pos c]; rfl
      · rw [if_neg c, st_at, if_pos (by omega)]; rfl
    · rw [us 113 (by omega) (by omega) (by omega) (by omega) (by omega) (by omega) (by omega), o1 113 (by omega) (by omega)]; exact x5
    · rw [← hU, st_ne (by omega), st_at, if_pos rfl]; rfl
    · rw [← hU, st_at, if_pos rfl]; rfl
    · rw [us 1 (by omega) (by omega) (by omega) (by omega) (by omega) (by omega) (by omega)]; exact o2
    · rw [us 1 (by omega) (by omega) (by omega) (by omega) (by omega) (by omega) (by omega)]; exact y3
    · rw [us n (by omega) (by omega) (by omega) (by omega) (by omega) (by omega) (by omega)]; exact o1 n (by omega) (by omega)
  · have hf := o5 (by omega)
    rw [if_neg q, hf.1, if_neg (npos q o3).2]
    have tm : ∀ m, m ≠ 1 → ¬ (d ≤ m ∧ m < d + 7) → τ m = σ m := o1
    generalize hBB : va_up a 5 (va_up (va_up (a 5) 1 0) 2 (Z.2.1 + 1)) = b
    have eo : ∀ m, m ≠ 5 → b m = a m := fun m h5 => by rw [← hBB, va_up_ne _ _ h5]
    have e5 : ∀ k, k ≠ 1 → k ≠ 2 → b 5 k = a 5 k := fun k h1 h2 => by
      rw [← hBB]
      show va_up (va_up (a 5) 1 0) 2 (Z.2.1 + 1) k = _
      rw [va_up_ne _ _ h2, va_up_ne _ _ h1]
    have e51 : b 5 1 = 0 := by rw [← hBB]; rfl
    have e52 : b 5 2 = Z.2.1 + 1 := by rw [← hBB]; rfl
    refine OkK.mk (h := h) rfl ?_ (fun n hn => tm n (by omega) (by omega))
    have f6 : (fun i => b 5 (6 + i)) = (fun i => a 5 (6 + i)) := funext (fun i => e5 _ (by omega) (by omega))
    have f40 : (fun i => b (40 + i)) = (fun i => a (40 + i)) := funext (fun i => eo _ (by omega))
    have f20 : (fun i => b (20 + i)) = (fun i => a (20 + i)) := funext (fun i => eo _ (by omega))
    unfold RelC Hl
    rw [f6, f40, f20, eo 0 (by omega), eo 1 (by omega), eo 2 (by omega), eo 3 (by omega), eo 4 (by omega), eo 6 (by omega), eo 7 (by omega), eo 8 (by omega), eo 9 (by omega), eo 10 (by omega), e5 0 (by omega) (by omega), e5 3 (by omega) (by omega), e5 4 (by omega) (by omega), e5 5 (by omega) (by omega), e51, e52]
    refine ⟨⟨NmC.to ⟨n0, n1, by rw [n2, hd]⟩ (tm 3 (by omega) (by omega)) (tm 0 (by omega) (by omega)), x1.to (fun m h1 h2 => tm m (by omega) (by omega))⟩, x2.to (fun m h1 h2 => tm m (by omega) (by omega)), PaC.to ⟨p0, oo, p1, p2, p3⟩ (fun m h1 h2 => tm m (by omega) (by omega)), x4.to (fun m h1 h2 => tm m (by omega) (by omega)), ?_, x6.to (fun m h1 h2 => tm m (by omega) (by omega)), x7.to (fun m h1 h2 => tm m (by omega) (by omega)), ⟨o2, ?_, fun k hk => by cases hk⟩⟩
    · rw [tm 113 (by omega) (by omega)]; exact x5
    · rw [hf.2]; exact (fI_s _).symm
