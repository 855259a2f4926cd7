/-! the reference: the clause, the text -/
theorem M_C {T : Nat → Nat} {N : Nat} (hN : N ≤ 240) (hT : ∀ k, k < N → T k ≤ 255) {r : Ab} {σ0 σ : Sg} (h : RdM T N r σ0 σ) (hr : Rb N r) (ht : TxM T N (r 0 0) σ) (hp : sk T N (r 0 0) < N) : OkC T N σ0 (fX12_takeClause σ) (clC T N r (sk T N (r 0 0))) := by
  obtain ⟨b1, b2, b3, b4, b5, b6⟩ := hr.1
  have t1 : TxM T N (sk T N (r 0 0)) (st σ 132 12 (nI (sk T N (r 0 0)))) := ht.to
  have h1 : RdM T N r σ0 (st σ 132 12 (nI (sk T N (r 0 0)))) := h.up (by omega)
  have hc := hT _ hp
  unfold fX12_takeClause
  rw [mHere hN hT ht b1, bi_some, if_pos hp]
  generalize st σ 132 12 (nI (sk T N (r 0 0))) = S at t1 h1 ⊢
  generalize hpp : sk T N (r 0 0) = p at hp t1 hc ⊢
  rw [h1.1.1]
  have f1 : OkC T N σ0 (fX12_takeClause_46 S) (1, p, r) := by
    unfold fX12_takeClause_46 fX12_fails
    rw [t1.2.2.1, lt_eq, bi_some, li1]
    refine ⟨_, rfl, fun hh => absurd hh (by show ¬ 1 = 0; omega), fun _ => ⟨by rw [st_at, if_pos rfl], fun n k hs hk => ?_⟩⟩
    rw [st_eq, if_neg (by omega)]
    exact h1.frame n k hs hk
  have f3 : OkC T N σ0 (fX12_takeClause_95 S) (3, p, r) := by
    unfold fX12_takeClause_95 fX12_fails
    rw [t1.2.2.1, lt_eq, bi_some, li3]
    refine ⟨_, rfl, fun hh => absurd hh (by show ¬ 3 = 0; omega), fun _ => ⟨by rw [st_at, if_pos rfl], fun n k hs hk => ?_⟩⟩
    rw [st_eq, if_neg (by omega)]
    exact h1.frame n k hs hk
  have h2 : RdM T N r σ0 (st S 132 12 (nI (p + 1))) := h1.up (by omega)
  have t2 : TxM T N (p + 1) (st S 132 12 (nI (p + 1))) := t1.to
  have e105 : ∀ x, fX12_takeClause_105 S x = (if x = 111 then bi (fX12_takeOracle (st S 132 12 (nI (p + 1)))) (fun r_18 σ_18 => fX12_takeClause_145 σ_18 r_18) else (if x = 118 then bi (fX12_takeVillage (st S 132 12 (nI (p + 1)))) (fun r_17 σ_17 => fX12_takeClause_145 σ_17 r_17) else bi (fX12_takePerson (st S 132 12 (nI (p + 1)))) (fun r_11 σ_11 => fX12_takeClause_145 σ_11 r_11))) := by
    intro x
    unfold fX12_takeClause_105
    rw [t1.2.2.1, li1, nI_add, lt_eq]
  have c111 : ∀ t, t ≤ 255 → ((nI t = 111) = (t = 111)) := fun t ht => by rw [show (111 : Int32) = nI 111 by decide, eq_nI (by omega) (by omega)]
  have c118 : ∀ t, t ≤ 255 → ((nI t = 118) = (t = 118)) := fun t ht => by rw [show (118 : Int32) = nI 118 by decide, eq_nI (by omega) (by omega)]
  have c112 : ∀ t, t ≤ 255 → ((nI t = 112) = (t = 112)) := fun t ht => by rw [show (112 : Int32) = nI 112 by decide, eq_nI (by omega) (by omega)]
  have d111 := c111 _ hc
  have d118 := c118 _ hc
  have d112 := c112 _ hc
  have x0 : ((nI (r 0 1) = 0) = (r 0 1 = 0)) := by rw [li0, eq_nI (by omega) (by omega)]
  have x4 : ((S 132 16 = 4) = (r 0 3 = 4)) := by rw [h1.1.2.2.1, li4, eq_nI (by omega) (by omega)]
  have x7 : ((S 132 17 = 7) = (r 0 4 = 7)) := by rw [h1.1.2.2.2, li7, eq_nI (by omega) (by omega)]
  have n10 : ¬ (1 : Int32) = 0 := by decide
  unfold fX12_takeClause_17 fX12_takeClause_36 fX12_takeClause_56 fX12_takeClause_66 fX12_takeClause_80 clC
  simp only [d111, d118, d112, x0, x4, x7, e105]
  by_cases q1 : T p = 111
  · by_cases q2 : r 0 1 = 0
    · simp only [q1, q2, n10, if_true, if_false]
      simp only [show ¬ (111 = 118) by omega, show ¬ (111 = 112) by omega, if_false]
      exact M_E hN hT (M_O hN hT h2 t2 (by omega)) (clO_b (by omega) hr (b6 q2)).1 (fun hz => ((clO_b (by omega) hr (b6 q2)).2 hz).1.1.1)
    · simp only [q1, q2, if_true, if_false]
      exact f3
  · by_cases q2 : r 0 1 = 0
    · simp only [q1, q2, n10, if_true, if_false]
      by_cases q3 : T p = 118
      · simp only [q3, if_true]; exact f1
      · simp only [q3, if_false]
        by_cases q4 : T p = 112
        · simp only [q4, if_true]; exact f1
        · simp only [q4, if_false]; exact f1
    · simp only [q1, q2, if_true, if_false]
      by_cases q3 : T p = 118
      · by_cases q5 : r 0 3 = 4
        · simp only [q3, q5, if_true]; exact f3
        · simp only [q3, q5, if_true, if_false, show ¬ (118 = 112) by omega]
          exact M_E hN hT (M_V hN hT h2 t2 (by omega) (by omega)) (clV_b (by omega) hr (by omega) q2).1 (fun hz => ((clV_b (by omega) hr (by omega) q2).2 hz).1.1.1)
      · by_cases q4 : T p = 112
        · by_cases q5 : r 0 4 = 7
          · simp only [q3, q4, q5, if_true, if_false]
            simp only [show ¬ (112 = 118) by omega, if_false]
            exact f3
          · simp only [q4, q5, if_true, if_false, show ¬ (112 = 118) by omega]
            exact M_E hN hT (M_P hN hT h2 t2 (by omega) (by omega) b4) (clP_b (by omega) hr (by omega) q2).1 (fun hz => ((clP_b (by omega) hr (by omega) q2).2 hz).1.1.1)
        · simp only [q3, q4, if_false]; exact f1
/-- the text from r on -/
def rdl (T : Nat → Nat) (N : Nat) : Nat → Ab → Nat × Nat × Ab
  | 0, r => (0, 0, r)
  | d + 1, r => if sk T N (r 0 0) < N then (if (clC T N (atA r (sk T N (r 0 0))) (sk T N (r 0 0))).1 = 0 then rdl T N d (clC T N (atA r (sk T N (r 0 0))) (sk T N (r 0 0))).2.2 else clC T N (atA r (sk T N (r 0 0))) (sk T N (r 0 0))) else (0, 0, r)
theorem M_text {T : Nat → Nat} {N : Nat} (hN : N ≤ 240) (hT : ∀ k, k < N → T k ≤ 255) {σ0 : Sg} (kx : Sg → Int32 → Option (Int32 × Sg)) : ∀ (d fu : Nat) (r : Ab) (σ : Sg), N < r 0 0 + d → d + 1 < fu → RdM T N r σ0 σ → Rb N r → TxM T N (r 0 0) σ → ∃ τ, fX12_hills_32 fu kx σ (nI 0) = kx τ (nI (rdl T N d r).1) ∧ (rdl T N d r).1 ≤ 3 ∧ ((rdl T N d r).1 = 0 → RdM T N (rdl T N d r).2.2 σ0 τ ∧ Rb N (rdl T N d r).2.2 ∧ τ 132 11 = fI 0) ∧ (0 < (rdl T N d r).1 → τ 132 11 = nI (rdl T N d r).2.1 ∧ ∀ n k, scM n k = false → (n = 132 → k ≠ 11) → τ n k = σ0 n k) := by
  intro d
  induction d with
  | zero => intro fu r σ h1 _ _ hr _; have := hr.1.1; omega
  | succ d ih =>
    intro fu r σ h1 h2 h hr ht
    cases fu with
    | zero => omega
    | succ fu =>
      have hge := sk_ge T N (r 0 0)
      have t1 : TxM T N (sk T N (r 0 0)) (st σ 132 12 (nI (sk T N (r 0 0)))) := ht.to
      have h1' : RdM T N r σ0 (st σ 132 12 (nI (sk T N (r 0 0)))) := h.up (by omega)
      rw [fX12_hills_32_s]
      unfold fX12_hills_32b rdl
      rw [if_pos (by decide), mHere hN hT ht hr.1.1, bi_some]
      by_cases q : sk T N (r 0 0) < N
      · have hc := hT _ q
        have hrA : Rb N (atA r (sk T N (r 0 0))) := ⟨⟨Nat.le_of_lt q, hr.1.2⟩, hr.2⟩
        rw [if_pos q, if_pos q, if_neg (nI_pos (by omega))]
        have hA : RdM T N (atA r (sk T N (r 0 0))) σ0 (st σ 132 12 (nI (sk T N (r 0 0)))) := h1'
        have okc := M_C hN hT hA hrA t1 (by show sk T N (sk T N (r 0 0)) < N; rw [sk_sk]; exact q)
        have e1 : clC T N (atA r (sk T N (r 0 0))) (sk T N ((atA r (sk T N (r 0 0))) 0 0)) = clC T N (atA r (sk T N (r 0 0))) (sk T N (r 0 0)) := by
          show clC T N _ (sk T N (sk T N (r 0 0))) = _
          rw [sk_sk]
        rw [e1] at okc
        have hb := clC_b (T := T) q hrA
        obtain ⟨τ, e, c0, c1⟩ := okc
        rw [e, bi_some]
        generalize clC T N (atA r (sk T N (r 0 0))) (sk T N (r 0 0)) = Z at c0 c1 hb ⊢
        by_cases z : Z.1 = 0
        · obtain ⟨k1, k2⟩ := c0 z
          obtain ⟨k3, k4⟩ := hb.2 z
          rw [if_pos z, z]
          exact ih fu Z.2.2 τ (by omega) (by omega) k1 k3 k2
        · rw [if_neg z]
          cases fu with
          | zero => omega
          | succ fu =>
            refine ⟨τ, ?_, hb.1, fun hh => absurd hh z, c1⟩
            rw [fX12_hills_32_s]
            unfold fX12_hills_32b
            rw [if_neg (npos z hb.1).2]
      · have hn : (if sk T N (r 0 0) < N then nI (T (sk T N (r 0 0))) else fI 0) = fI 0 := if_neg q
        rw [hn, if_pos (by decide), if_neg q]
        exact ⟨_, rfl, by show 0 ≤ 3; omega, fun _ => ⟨h1', hr, t1.2.2.2⟩, fun hh => absurd hh (by show ¬ 0 < 0; omega)⟩
/-! the reference: what was read becomes the hills -/
/-- the state that a text tells -/
def w0 (r : Ab) : Nat → Nat := fun k => if k = 0 then r 0 1 else if 5 ≤ k ∧ k < 5 + r 0 4 then r 4 (k - 5) else if 26 ≤ k ∧ k < 26 + r 0 3 then r 1 (k - 26) else 0
def newA (a r : Ab) : Ab := fun n => if n = 0 then r 0 else if n = 1 then r 2 else if n = 2 then r 3 else if n = 3 then (fun p => if r 5 p < r 0 4 then r 5 p + 1 else 0) else if n = 4 then w0 r else if n = 5 then (fun k => if k = 0 then a 5 0 else 0) else a n
def r0A : Ab := fun _ _ => 0
def sp_hills (a : Ab) : Int32 × Ab := if (rdl (a 6) (a 5 1) 241 r0A).1 = 0 then (nI ((rdl (a 6) (a 5 1) 241 r0A).2.2 0 4), newA a (rdl (a 6) (a 5 1) 241 r0A).2.2) else (-10 - nI (rdl (a 6) (a 5 1) 241 r0A).1, va_up a 5 (va_up (va_up (a 5) 1 0) 2 ((rdl (a 6) (a 5 1) 241 r0A).2.1 + 1)))
