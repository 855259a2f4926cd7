/-! the reference: a person's clause, a clause -/
theorem num_sk (T : Nat → Nat) (N lo hs i : Nat) : num T N lo hs (sk T N i) = num T N lo hs i := by
  unfold num
  rw [sk_sk]
theorem num_pl (T : Nat → Nat) (N lo hs i : Nat) : (num T N lo hs i).2.1 = sk T N i := by
  unfold num
  split <;> rfl
theorem num_in {T : Nat → Nat} {N lo hs i : Nat} (h : (num T N lo hs i).1 = 0) : sk T N i < N := by
  unfold num at h
  by_cases q : sk T N i < N ∧ 48 ≤ T (sk T N i) ∧ T (sk T N i) ≤ 57
  · exact q.1
  · rw [if_neg q] at h; cases h
theorem in_78 (σ : Sg) {t : Nat} (ht : t ≤ 255) : fX12_in σ (nI t).toInt64 7 8 = some (nI (if t = 7 ∨ t = 8 then 1 else 0), σ) := by
  rw [in_spec, nI_l (by omega), show (7 : Int64) = lN 7 by decide, show (8 : Int64) = lN 8 by decide]
  simp only [lN_le (show 7 < 2 ^ 31 by omega) (show t < 2 ^ 31 by omega), lN_le (show t < 2 ^ 31 by omega) (show 8 < 2 ^ 31 by omega)]
  by_cases q : t = 7 ∨ t = 8
  · rw [if_pos q, if_pos (by omega)]; rfl
  · rw [if_neg q, if_neg (by omega)]; rfl
theorem RdM.up {T : Nat → Nat} {N : Nat} {r : Ab} {σ0 σ : Sg} (h : RdM T N r σ0 σ) {n k : Nat} {v : Int32} (hn : (n = 132 ∧ (k = 12 ∨ k = 13)) ∨ ((n = 139 ∨ n = 140 ∨ n = 141 ∨ n = 142) ∧ r 0 4 ≤ k)) : RdM T N r σ0 (st σ n k v) := by
  obtain ⟨h1, h2, h3, h4⟩ := h
  refine ⟨⟨?_, ?_, ?_, ?_⟩, fun v hv => ?_, fun p hp => ⟨?_, ?_, ?_, ?_⟩, fun m j hs hk => ?_⟩
  · rw [st_eq, if_neg (by omega)]; exact h1.1
  · rw [st_eq, if_neg (by omega)]; exact h1.2.1
  · rw [st_eq, if_neg (by omega)]; exact h1.2.2.1
  · rw [st_eq, if_neg (by omega)]; exact h1.2.2.2
  · rw [st_eq, if_neg (by omega)]; exact h2 v hv
  · rw [st_eq, if_neg (by omega)]; exact (h3 p hp).1
  · rw [st_eq, if_neg (by omega)]; exact (h3 p hp).2.1
  · rw [st_eq, if_neg (by omega)]; exact (h3 p hp).2.2.1
  · rw [st_eq, if_neg (by omega)]; exact (h3 p hp).2.2.2
  · have := scM_131 hs
    rw [st_eq, if_neg (by omega)]; exact h4 m j hs hk
theorem M_P67 {T : Nat → Nat} {N : Nat} (hN : N ≤ 240) (hT : ∀ k, k < N → T k ≤ 255) {r : Ab} {i x y z : Nat} {σ0 σ : Sg} (h : RdM T N r σ0 σ) (ht : TxM T N i σ) (hi : i ≤ N) (hP : r 0 4 < 7) (e1 : σ 139 (r 0 4) = nI x) (e2 : σ 140 (r 0 4) = nI y) (e3 : σ 132 13 = nI z) : OkC T N σ0 (fX12_takePerson_67 σ (nI (r 0 4)) (nI 0)) (clP4 T N r i x y z) := by
  unfold fX12_takePerson_67 clP4
  have ec : (nI (r 0 4)).toNatClampNeg = r 0 4 := cl_nI (by omega)
  rw [if_pos (inb_nI hP (by omega))]
  simp only [ec]
  rw [e3, lt_eq, if_pos (by decide)]
  generalize hS : st σ 141 (r 0 4) (nI z) = S
  have h2 : RdM T N r σ0 S := by rw [← hS]; exact h.up (by omega)
  have t2 : TxM T N i S := by rw [← hS]; exact ht.of (by omega) (by omega)
  have e1 : S 139 (r 0 4) = nI x := by rw [← hS, st_ne (by omega)]; exact e1
  have e2 : S 140 (r 0 4) = nI y := by rw [← hS, st_ne (by omega)]; exact e2
  have e3 : S 141 (r 0 4) = nI z := by rw [← hS, st_at, if_pos rfl]
  rw [mHere hN hT t2 hi, bi_some, st_at, if_pos rfl, lt_eq]
  generalize hU : st S 132 12 (nI (sk T N i)) = U
  have h3 : RdM T N r σ0 U := by rw [← hU]; exact h2.up (by omega)
  have t3 : TxM T N (sk T N i) U := by rw [← hU]; exact t2.to
  have e1 : U 139 (r 0 4) = nI x := by rw [← hU, st_ne (by omega)]; exact e1
  have e2 : U 140 (r 0 4) = nI y := by rw [← hU, st_ne (by omega)]; exact e2
  have e3 : U 141 (r 0 4) = nI z := by rw [← hU, st_ne (by omega)]; exact e3
  obtain ⟨τ, e, u1, u2, u3, u4⟩ := mNum (lo := 0) (hs := 10) (x2 := 9) hN hT t3 (sk_le hi) (by omega) (by omega) (by decide)
  have e : fX12_takeNumber U 0 9 = _ := e
  rw [num_sk] at e u1 u2 u3
  have h4 := h3.num u4
  have hc := num_c (T := T) (N := N) (lo := 0) (hs := 10) (i := i)
  have hpl := num_pl T N 0 10 i
  have hin := num_in (T := T) (N := N) (lo := 0) (hs := 10) (i := i)
  have hok := num_ok (T := T) (N := N) (lo := 0) (hs := 10) (i := i)
  rw [e, bi_some, if_pos (inb_nI hP (by omega)), lt_eq]
  generalize num T N 0 10 i = A at u1 u2 u3 hc hpl hin hok ⊢
  have fr : ∀ (W : Sg) (v : Int32), (∀ n k, scM n k = false → (n = 132 → k ≠ 11) → W n k = st τ 142 (r 0 4) v n k) → ∀ n k, scM n k = false → (n = 132 → k ≠ 11) → W n k = σ0 n k := fun W v hW n k hs hk => by
    have := scM_131 hs
    rw [hW n k hs hk, st_ne (by omega)]
    exact h4.frame n k hs hk
  have eP : ∀ v, st τ 142 (r 0 4) v 132 17 = nI (r 0 4) := fun v => by rw [st_ne (by omega)]; exact h4.1.2.2.2
  by_cases q : A.1 = 0
  · have hv := hok q
    rw [q, if_pos (show nI 0 = 0 by decide), if_pos rfl, u2 q, st_ne (show 132 ≠ 142 by omega), u2 q, in_78 _ (show A.2.2.2 ≤ 255 by omega), bi_some]
    by_cases w : A.2.2.2 = 7 ∨ A.2.2.2 = 8
    · rw [if_pos w, if_pos w, if_neg (by decide)]
      unfold fX12_fails
      rw [lt_eq, bi_some, li2]
      refine ⟨_, rfl, fun hh => absurd hh (by show ¬ 2 = 0; omega), fun _ => ⟨?_, fr _ (nI A.2.2.2) (fun n k hs hk => by rw [st_eq, if_neg (by omega)])⟩⟩
      rw [st_at, if_pos rfl]
      exact congrArg nI hpl.symm
    · rw [if_neg w, if_neg w, if_pos (by decide)]
      unfold fX12_takePerson_142 fX12_takePerson_160
      rw [if_pos (show nI 0 = 0 by decide), if_pos (hin q), if_neg (show ¬ nI (T (sk T N i)) < 0 from nI_pos (by have := hT _ (hin q); omega)), eP, li1, nI_add, lt_eq]
      refine ⟨_, rfl, fun _ => ⟨⟨⟨?_, ?_, ?_, ?_⟩, fun v hv => ?_, fun p hp => ?_, fr _ (nI A.2.2.2) (fun n k hs hk => by have := scM_131 hs; rw [st_eq, if_neg (by omega)])⟩, ?_⟩, fun hh => absurd hh (by show ¬ 0 < 0; omega)⟩
      · rw [st_eq, if_neg (by omega), st_ne (by omega)]; exact h4.1.1
      · rw [st_eq, if_neg (by omega), st_ne (by omega)]; exact h4.1.2.1
      · rw [st_eq, if_neg (by omega), st_ne (by omega)]; exact h4.1.2.2.1
      · rw [st_at, if_pos rfl]; rfl
      · rw [st_ne (by omega), st_ne (by omega)]; exact h4.2.1 v hv
      · have hp : p < r 0 4 + 1 := hp
        rw [st_ne (by omega), st_ne (by omega), st_ne (by omega), st_ne (by omega), st_ne (by omega), st_ne (by omega), st_ne (by omega), st_at]
        show _ = nI (va_up (r 2) (r 0 4) x p) ∧ _ = nI (va_up (r 3) (r 0 4) y p) ∧ _ = nI (va_up (r 4) (r 0 4) z p) ∧ _ = nI (va_up (r 5) (r 0 4) A.2.2.2 p)
        unfold va_up
        by_cases c : p = r 0 4
        · rw [if_pos c, if_pos c, if_pos c, if_pos c, if_pos c, c, u4 _ _ (by omega), u4 _ _ (by omega), u4 _ _ (by omega)]
          exact ⟨e1, e2, e3, rfl⟩
        · rw [if_neg c, if_neg c, if_neg c, if_neg c, if_neg c]
          exact h4.2.2.1 p (by omega)
      · exact ((u1 q).of (by omega) (by omega)).of (by omega) (by omega)
  · rw [if_neg (npos q (by omega)).2, if_neg q]
    unfold fX12_takePerson_142 fX12_takePerson_159 fX12_takePerson_160
    rw [if_neg (npos q (by omega)).2, eP, lt_eq]
    refine ⟨_, rfl, fun hh => absurd hh q, fun _ => ⟨?_, fr _ (τ 132 13) (fun n k hs hk => by have := scM_131 hs; rw [st_eq, if_neg (by omega)])⟩⟩
    rw [st_eq, if_neg (by omega), st_ne (by omega)]
    exact u3 (by omega)
/-- a fault goes through -/
theorem M_P67f {T : Nat → Nat} {N : Nat} {r : Ab} {σ0 σ : Sg} (h : RdM T N r σ0 σ) (hP : r 0 4 < 7) {c pl : Nat} (hc : ¬ c = 0) (hc2 : c ≤ 3) (hf : σ 132 11 = nI pl) : OkC T N σ0 (fX12_takePerson_67 σ (nI (r 0 4)) (nI c)) (c, pl, r) := by
  unfold fX12_takePerson_67
  have ec : (nI (r 0 4)).toNatClampNeg = r 0 4 := cl_nI (by omega)
  rw [if_pos (inb_nI hP (by omega))]
  simp only [ec]
  rw [lt_eq, if_neg (npos hc hc2).1]
  refine ⟨_, rfl, fun hh => absurd hh hc, fun _ => ⟨?_, fun n k hs hk => ?_⟩⟩
  · rw [st_ne (by omega)]; exact hf
  · have := scM_131 hs
    rw [st_ne (by omega)]; exact h.frame n k hs hk
theorem M_P41f {T : Nat → Nat} {N : Nat} {r : Ab} {σ0 σ : Sg} (h : RdM T N r σ0 σ) (hP : r 0 4 < 7) {c pl : Nat} (hc : ¬ c = 0) (hc2 : c ≤ 3) (hf : σ 132 11 = nI pl) : OkC T N σ0 (fX12_takePerson_41 σ (nI (r 0 4)) (nI c)) (c, pl, r) := by
  unfold fX12_takePerson_41
  rw [if_pos (inb_nI hP (by omega)), cl_nI (by omega), lt_eq, if_neg (npos hc hc2).1]
  exact M_P67f (h.up (by omega)) hP hc hc2 (by rw [st_ne (by omega)]; exact hf)
theorem M_P41 {T : Nat → Nat} {N : Nat} (hN : N ≤ 240) (hT : ∀ k, k < N → T k ≤ 255) {r : Ab} {i x y : Nat} {σ0 σ : Sg} (h : RdM T N r σ0 σ) (ht : TxM T N i σ) (hi : i ≤ N) (hP : r 0 4 < 7) (e1 : σ 139 (r 0 4) = nI x) (e3 : σ 132 13 = nI y) : OkC T N σ0 (fX12_takePerson_41 σ (nI (r 0 4)) (nI 0)) (clP3 T N r i x y) := by
  unfold fX12_takePerson_41 clP3
  rw [if_pos (inb_nI hP (by omega)), cl_nI (by omega), e3, lt_eq, if_pos (by decide)]
  generalize hS : st σ 140 (r 0 4) (nI y) = S
  have h2 : RdM T N r σ0 S := by rw [← hS]; exact h.up (by omega)
  have t2 : TxM T N i S := by rw [← hS]; exact ht.of (by omega) (by omega)
  have e1 : S 139 (r 0 4) = nI x := by rw [← hS, st_ne (by omega)]; exact e1
  have e2 : S 140 (r 0 4) = nI y := by rw [← hS, st_at, if_pos rfl]
  obtain ⟨τ, e, u1, u2, u3, u4⟩ := mNum (lo := 1) (hs := 10) (x2 := 9) hN hT t2 hi (by omega) (by omega) (by decide)
  have e : fX12_takeNumber S 1 9 = _ := e
  have hc := num_c (T := T) (N := N) (lo := 1) (hs := 10) (i := i)
  have ha := (num_at (T := T) (lo := 1) (hs := 10) hi).2.1
  rw [e, bi_some]
  generalize num T N 1 10 i = A at u1 u2 u3 hc ha ⊢
  by_cases q : A.1 = 0
  · rw [if_pos q, q]
    exact M_P67 hN hT (h2.num u4) (u1 q) ha hP (by rw [u4 _ _ (by omega)]; exact e1) (by rw [u4 _ _ (by omega)]; exact e2) (u2 q)
  · rw [if_neg q]
    exact M_P67f (h2.num u4) hP q (by omega) (u3 (by omega))
theorem M_P {T : Nat → Nat} {N : Nat} (hN : N ≤ 240) (hT : ∀ k, k < N → T k ≤ 255) {r : Ab} {i : Nat} {σ0 σ : Sg} (h : RdM T N r σ0 σ) (ht : TxM T N i σ) (hi : i ≤ N) (hP : r 0 4 < 7) (hV : r 0 3 ≤ 4) : OkC T N σ0 (fX12_takePerson σ) (clP T N r i) := by
  obtain ⟨τ, e, u1, u2, u3, u4⟩ := mNum (lo := 0) (hs := 4) (x2 := 3) hN hT ht hi (by omega) (by omega) (by decide)
  have e : fX12_takeNumber σ 0 3 = _ := e
  have h1 := h.num u4
  have hc := num_c (T := T) (N := N) (lo := 0) (hs := 4) (i := i)
  have ha := (num_at (T := T) (lo := 0) (hs := 4) hi).2.1
  unfold fX12_takePerson clP
  rw [h.1.2.2.2, lt_eq, e, bi_some, if_pos (inb_nI hP (by omega)), cl_nI (by omega), lt_eq]
  generalize num T N 0 4 i = A at u1 u2 u3 hc ha ⊢
  by_cases q : A.1 = 0
  · rw [if_pos q, q, if_pos (by decide), u2 q]
    generalize hS : st τ 139 (r 0 4) (nI A.2.2.2) = S
    have h2 : RdM T N r σ0 S := by rw [← hS]; exact h1.up (by omega)
    have t2 : TxM T N A.2.2.1 S := by rw [← hS]; exact (u1 q).of (by omega) (by omega)
    have e1 : S 139 (r 0 4) = nI A.2.2.2 := by rw [← hS, st_at, if_pos rfl]
    obtain ⟨υ, f, v1, v2, v3, v4⟩ := mNum (lo := 0) (hs := r 0 3) (x2 := nI (r 0 3) - nI 1) hN hT t2 ha (by omega) (by omega) rfl
    have f : fX12_takeNumber S 0 (nI (r 0 3) - 1) = _ := f
    have hc2 := num_c (T := T) (N := N) (lo := 0) (hs := r 0 3) (i := A.2.2.1)
    have ha2 := (num_at (T := T) (lo := 0) (hs := r 0 3) ha).2.1
    unfold clP2
    rw [h2.1.2.2.1, f, bi_some]
    generalize num T N 0 (r 0 3) A.2.2.1 = B at v1 v2 v3 hc2 ha2 ⊢
    by_cases z : B.1 = 0
    · rw [if_pos z, z]
      exact M_P41 hN hT (h2.num v4) (v1 z) ha2 hP (by rw [v4 _ _ (by omega)]; exact e1) (v2 z)
    · rw [if_neg z]
      exact M_P41f (h2.num v4) hP z (by omega) (v3 (by omega))
  · rw [if_neg q, if_neg (npos q (by omega)).1]
    exact M_P41f (h1.up (by omega)) hP q (by omega) (by rw [st_ne (by omega)]; exact u3 (by omega))
