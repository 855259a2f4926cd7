/-! the reference: a clause, the text -/
theorem M_E {T : Nat → Nat} {N : Nat} (hN : N ≤ 240) (hT : ∀ k, k < N → T k ≤ 255) {σ0 : Sg} {o : Option (Int32 × Sg)} {z : Nat × Nat × Ab} (h : OkC T N σ0 o z) (hz : z.1 ≤ 3) (ha : z.1 = 0 → z.2.2 0 0 ≤ N) : OkC T N σ0 (bi o (fun r σ => fX12_takeClause_145 σ r)) (clE T N z) := by
  obtain ⟨τ, e, h0, hf⟩ := h
  rw [e, bi_some]
  unfold fX12_takeClause_145 clE
  by_cases q : z.1 = 0
  · obtain ⟨h1, t1⟩ := h0 q
    have t2 : TxM T N (sk T N (z.2.2 0 0)) (st τ 132 12 (nI (sk T N (z.2.2 0 0)))) := t1.to
    have h2 : RdM T N z.2.2 σ0 (st τ 132 12 (nI (sk T N (z.2.2 0 0)))) := h1.up (by omega)
    rw [if_pos q, q, if_pos (by decide), mHere hN hT t1 (ha q), bi_some]
    generalize st τ 132 12 (nI (sk T N (z.2.2 0 0))) = S at t2 h2 ⊢
    by_cases w : sk T N (z.2.2 0 0) < N ∧ T (sk T N (z.2.2 0 0)) = 59
    · rw [if_pos w, if_pos w.1, w.2, if_pos (by decide)]
      unfold fX12_takeClause_169
      rw [t2.2.2.1, li1, nI_add, lt_eq]
      have h3 : RdM T N z.2.2 σ0 (st S 132 12 (nI (sk T N (z.2.2 0 0) + 1))) := h2.up (by omega)
      exact ⟨_, rfl, fun _ => ⟨h3, t2.to⟩, fun hh => absurd hh (by show ¬ 0 < 0; omega)⟩
    · rw [if_neg w]
      have hne : ¬ (if sk T N (z.2.2 0 0) < N then nI (T (sk T N (z.2.2 0 0))) else fI 0) = 59 := by
        by_cases y : sk T N (z.2.2 0 0) < N
        · have := hT _ y
          rw [if_pos y, li59, eq_nI (by omega) (by omega)]
          exact fun c => w ⟨y, c⟩
        · rw [if_neg y]; decide
      rw [if_neg hne, t2.2.2.1]
      unfold fX12_fails
      rw [lt_eq, bi_some, li1]
      refine ⟨_, rfl, fun hh => absurd hh (by show ¬ 1 = 0; omega), fun _ => ⟨by rw [st_at, if_pos rfl], fun n k hs hk => ?_⟩⟩
      rw [st_eq, if_neg (by omega)]
      exact h2.frame n k hs hk
  · obtain ⟨f1, f2⟩ := hf (by omega)
    rw [if_neg q, if_neg (npos q hz).2]
    unfold fX12_takeClause_169
    rw [lt_eq]
    refine ⟨_, rfl, fun hh => absurd hh q, fun _ => ⟨?_, fun n k hs hk => ?_⟩⟩
    · rw [st_eq, if_neg (by omega)]; exact f1
    · have := scM_131 hs
      rw [st_eq, if_neg (by omega)]; exact f2 n k hs hk
theorem clO_b {T : Nat → Nat} {N : Nat} {r : Ab} {i : Nat} (hi : i ≤ N) (hr : Rb N r) (h0 : r 0 3 = 0 ∧ r 0 4 = 0) : (clO T N r i).1 ≤ 3 ∧ ((clO T N r i).1 = 0 → Rb N (clO T N r i).2.2 ∧ i ≤ (clO T N r i).2.2 0 0) := by
  have c1 := num_c (T := T) (N := N) (lo := 1) (hs := 21) (i := i)
  have a1 := num_at (T := T) (lo := 1) (hs := 21) hi
  have o1 := num_ok (T := T) (N := N) (lo := 1) (hs := 21) (i := i)
  unfold clO
  generalize num T N 1 21 i = A at c1 a1 o1 ⊢
  have c2 := num_c (T := T) (N := N) (lo := 1) (hs := 10) (i := A.2.2.1)
  have a2 := num_at (T := T) (lo := 1) (hs := 10) a1.2.1
  have o2 := num_ok (T := T) (N := N) (lo := 1) (hs := 10) (i := A.2.2.1)
  generalize num T N 1 10 A.2.2.1 = B at c2 a2 o2 ⊢
  by_cases q : A.1 = 0
  · rw [if_pos q]
    by_cases z : B.1 = 0
    · rw [if_pos z]
      have o1 := o1 q
      have o2 := o2 z
      refine ⟨by show 0 ≤ 3; omega, fun _ => ⟨⟨⟨?_, ?_, ?_, hr.1.2.2.2.1, hr.1.2.2.2.2.1, ?_⟩, hr.2.1, hr.2.2⟩, ?_⟩⟩
      · exact a2.2.1
      · show A.2.2.2 ≤ 20; omega
      · show B.2.2.2 ≤ 9; omega
      · intro _; exact h0
      · show i ≤ B.2.2.1; omega
    · rw [if_neg z]
      exact ⟨by show B.1 ≤ 3; omega, fun h => absurd h z⟩
  · rw [if_neg q]
    exact ⟨by show A.1 ≤ 3; omega, fun h => absurd h q⟩
theorem clV_b {T : Nat → Nat} {N : Nat} {r : Ab} {i : Nat} (hi : i ≤ N) (hr : Rb N r) (h0 : r 0 3 < 4) (hp : r 0 1 ≠ 0) : (clV T N r i).1 ≤ 3 ∧ ((clV T N r i).1 = 0 → Rb N (clV T N r i).2.2 ∧ i ≤ (clV T N r i).2.2 0 0) := by
  have c1 := num_c (T := T) (N := N) (lo := 0) (hs := 100) (i := i)
  have a1 := num_at (T := T) (lo := 0) (hs := 100) hi
  have o1 := num_ok (T := T) (N := N) (lo := 0) (hs := 100) (i := i)
  unfold clV
  generalize num T N 0 100 i = A at c1 a1 o1 ⊢
  by_cases q : A.1 = 0
  · rw [if_pos q]
    have o1 := o1 q
    refine ⟨by show 0 ≤ 3; omega, fun _ => ⟨⟨⟨a1.2.1, hr.1.2.1, hr.1.2.2.1, ?_, hr.1.2.2.2.2.1, fun c => absurd c hp⟩, fun v hv => ?_, fun p hp => ?_⟩, a1.1⟩⟩
    · show r 0 3 + 1 ≤ 4; omega
    · have hv : v < r 0 3 + 1 := hv
      show va_up (r 1) (r 0 3) A.2.2.2 v ≤ 99
      unfold va_up
      split
      · omega
      · exact hr.2.1 v (by omega)
    · have h := hr.2.2 p hp
      exact ⟨h.1, Nat.lt_of_lt_of_le h.2.1 (Nat.le_succ _), h.2.2⟩
  · rw [if_neg q]
    exact ⟨by show A.1 ≤ 3; omega, fun h => absurd h q⟩
theorem clP_b {T : Nat → Nat} {N : Nat} {r : Ab} {i : Nat} (hi : i ≤ N) (hr : Rb N r) (h0 : r 0 4 < 7) (hp : r 0 1 ≠ 0) : (clP T N r i).1 ≤ 3 ∧ ((clP T N r i).1 = 0 → Rb N (clP T N r i).2.2 ∧ i ≤ (clP T N r i).2.2 0 0) := by
  have c1 := num_c (T := T) (N := N) (lo := 0) (hs := 4) (i := i)
  have a1 := num_at (T := T) (lo := 0) (hs := 4) hi
  have o1 := num_ok (T := T) (N := N) (lo := 0) (hs := 4) (i := i)
  unfold clP clP2 clP3 clP4
  generalize num T N 0 4 i = A at c1 a1 o1 ⊢
  have c2 := num_c (T := T) (N := N) (lo := 0) (hs := r 0 3) (i := A.2.2.1)
  have a2 := num_at (T := T) (lo := 0) (hs := r 0 3) a1.2.1
  have o2 := num_ok (T := T) (N := N) (lo := 0) (hs := r 0 3) (i := A.2.2.1)
  generalize num T N 0 (r 0 3) A.2.2.1 = B at c2 a2 o2 ⊢
  have c3 := num_c (T := T) (N := N) (lo := 1) (hs := 10) (i := B.2.2.1)
  have a3 := num_at (T := T) (lo := 1) (hs := 10) a2.2.1
  have o3 := num_ok (T := T) (N := N) (lo := 1) (hs := 10) (i := B.2.2.1)
  generalize num T N 1 10 B.2.2.1 = C at c3 a3 o3 ⊢
  have c4 := num_c (T := T) (N := N) (lo := 0) (hs := 10) (i := C.2.2.1)
  have a4 := num_at (T := T) (lo := 0) (hs := 10) a3.2.1
  have o4 := num_ok (T := T) (N := N) (lo := 0) (hs := 10) (i := C.2.2.1)
  generalize num T N 0 10 C.2.2.1 = D at c4 a4 o4 ⊢
  by_cases q1 : A.1 = 0
  · rw [if_pos q1]
    by_cases q2 : B.1 = 0
    · rw [if_pos q2]
      by_cases q3 : C.1 = 0
      · rw [if_pos q3]
        by_cases q4 : D.1 = 0
        · rw [if_pos q4]
          have o1 := o1 q1
          have o2 := o2 q2
          have o3 := o3 q3
          have o4 := o4 q4
          by_cases w : D.2.2.2 = 7 ∨ D.2.2.2 = 8
          · rw [if_pos w]
            exact ⟨by show 2 ≤ 3; omega, fun h => absurd h (by show ¬ 2 = 0; omega)⟩
          · rw [if_neg w]
            refine ⟨by show 0 ≤ 3; omega, fun _ => ⟨⟨⟨a4.2.1, hr.1.2.1, hr.1.2.2.1, hr.1.2.2.2.1, ?_, fun c => absurd c hp⟩, hr.2.1, fun p hp => ?_⟩, ?_⟩⟩
            · show r 0 4 + 1 ≤ 7; omega
            · have hp : p < r 0 4 + 1 := hp
              show va_up (r 2) (r 0 4) A.2.2.2 p ≤ 3 ∧ va_up (r 3) (r 0 4) B.2.2.2 p < r 0 3 ∧ (1 ≤ va_up (r 4) (r 0 4) C.2.2.2 p ∧ va_up (r 4) (r 0 4) C.2.2.2 p ≤ 9) ∧ va_up (r 5) (r 0 4) D.2.2.2 p ≤ 9
              unfold va_up
              by_cases y : p = r 0 4
              · rw [if_pos y, if_pos y, if_pos y, if_pos y]; omega
              · rw [if_neg y, if_neg y, if_neg y, if_neg y]; exact hr.2.2 p (by omega)
            · show i ≤ D.2.2.1; omega
        · rw [if_neg q4]
          exact ⟨by show D.1 ≤ 3; omega, fun h => absurd h q4⟩
      · rw [if_neg q3]
        exact ⟨by show C.1 ≤ 3; omega, fun h => absurd h q3⟩
    · rw [if_neg q2]
      exact ⟨by show B.1 ≤ 3; omega, fun h => absurd h q2⟩
  · rw [if_neg q1]
    exact ⟨by show A.1 ≤ 3; omega, fun h => absurd h q1⟩
theorem clE_b {T : Nat → Nat} {N i : Nat} {z : Nat × Nat × Ab} (h : z.1 ≤ 3 ∧ (z.1 = 0 → Rb N z.2.2 ∧ i ≤ z.2.2 0 0)) : (clE T N z).1 ≤ 3 ∧ ((clE T N z).1 = 0 → Rb N (clE T N z).2.2 ∧ i ≤ (clE T N z).2.2 0 0) := by
  unfold clE
  by_cases q : z.1 = 0
  · obtain ⟨hr, hi⟩ := h.2 q
    have hge := sk_ge T N (z.2.2 0 0)
    rw [if_pos q]
    by_cases w : sk T N (z.2.2 0 0) < N ∧ T (sk T N (z.2.2 0 0)) = 59
    · rw [if_pos w]
      refine ⟨by show 0 ≤ 3; omega, fun _ => ⟨⟨⟨?_, hr.1.2⟩, hr.2.1, hr.2.2⟩, ?_⟩⟩
      · show sk T N (z.2.2 0 0) + 1 ≤ N; omega
      · show i ≤ sk T N (z.2.2 0 0) + 1; omega
    · rw [if_neg w]
      exact ⟨by show 1 ≤ 3; omega, fun h => absurd h (by show ¬ 1 = 0; omega)⟩
  · rw [if_neg q]; exact h
theorem clC_b {T : Nat → Nat} {N : Nat} {r : Ab} {p : Nat} (hp : p < N) (hr : Rb N r) : (clC T N r p).1 ≤ 3 ∧ ((clC T N r p).1 = 0 → Rb N (clC T N r p).2.2 ∧ p + 1 ≤ (clC T N r p).2.2 0 0) := by
  have bad : ∀ c, ¬ c = 0 → c ≤ 3 → c ≤ 3 ∧ (c = 0 → Rb N r ∧ p + 1 ≤ r 0 0) := fun c h1 h2 => ⟨h2, fun h => absurd h h1⟩
  unfold clC
  by_cases q1 : T p = 111
  · rw [if_pos q1]
    by_cases q2 : r 0 1 = 0
    · rw [if_pos q2]; exact clE_b (clO_b (by omega) hr (hr.1.2.2.2.2.2 q2))
    · rw [if_neg q2]; exact bad 3 (by omega) (by omega)
  rw [if_neg q1]
  by_cases q2 : r 0 1 = 0
  · rw [if_pos q2]; exact bad 1 (by omega) (by omega)
  rw [if_neg q2]
  by_cases q3 : T p = 118
  · rw [if_pos q3]
    by_cases q4 : r 0 3 = 4
    · rw [if_pos q4]; exact bad 3 (by omega) (by omega)
    · rw [if_neg q4]; exact clE_b (clV_b (by omega) hr (by have := hr.1.2.2.2.1; omega) q2)
  rw [if_neg q3]
  by_cases q4 : T p = 112
  · rw [if_pos q4]
    by_cases q5 : r 0 4 = 7
    · rw [if_pos q5]; exact bad 3 (by omega) (by omega)
    · rw [if_neg q5]; exact clE_b (clP_b (by omega) hr (by have := hr.1.2.2.2.2.1; omega) q2)
  rw [if_neg q4]; exact bad 1 (by omega) (by omega)
