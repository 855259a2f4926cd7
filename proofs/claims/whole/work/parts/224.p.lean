/-! a clause: r's row 0 has place, patience, step, villages, persons; rows 1 .. 5 bear, kind, home, wit, from -/
def atA (r : Ab) (i : Nat) : Ab := va_up r 0 (va_up (r 0) 0 i)
/-- the oracle's clause with its two numbers read -/
def rO (r : Ab) (i x y : Nat) : Ab := va_up r 0 (va_up (va_up (va_up (r 0) 0 i) 1 x) 2 y)
def rV (r : Ab) (i x : Nat) : Ab := va_up (va_up r 0 (va_up (va_up (r 0) 0 i) 3 (r 0 3 + 1))) 1 (va_up (r 1) (r 0 3) x)
def rP (r : Ab) (i x y z u : Nat) : Ab := va_up (va_up (va_up (va_up (va_up r 0 (va_up (va_up (r 0) 0 i) 4 (r 0 4 + 1))) 2 (va_up (r 2) (r 0 4) x)) 3 (va_up (r 3) (r 0 4) y)) 4 (va_up (r 4) (r 0 4) z)) 5 (va_up (r 5) (r 0 4) u)
def clO (T : Nat → Nat) (N : Nat) (r : Ab) (i : Nat) : Nat × Nat × Ab :=
  if (num T N 1 21 i).1 = 0 then (if (num T N 1 10 (num T N 1 21 i).2.2.1).1 = 0 then (0, 0, rO r (num T N 1 10 (num T N 1 21 i).2.2.1).2.2.1 (num T N 1 21 i).2.2.2 (num T N 1 10 (num T N 1 21 i).2.2.1).2.2.2) else ((num T N 1 10 (num T N 1 21 i).2.2.1).1, (num T N 1 10 (num T N 1 21 i).2.2.1).2.1, r)) else ((num T N 1 21 i).1, (num T N 1 21 i).2.1, r)
def clV (T : Nat → Nat) (N : Nat) (r : Ab) (i : Nat) : Nat × Nat × Ab :=
  if (num T N 0 100 i).1 = 0 then (0, 0, rV r (num T N 0 100 i).2.2.1 (num T N 0 100 i).2.2.2) else ((num T N 0 100 i).1, (num T N 0 100 i).2.1, r)
def clP4 (T : Nat → Nat) (N : Nat) (r : Ab) (i x y z : Nat) : Nat × Nat × Ab :=
  if (num T N 0 10 i).1 = 0 then (if (num T N 0 10 i).2.2.2 = 7 ∨ (num T N 0 10 i).2.2.2 = 8 then (2, (num T N 0 10 i).2.1, r) else (0, 0, rP r (num T N 0 10 i).2.2.1 x y z (num T N 0 10 i).2.2.2)) else ((num T N 0 10 i).1, (num T N 0 10 i).2.1, r)
def clP3 (T : Nat → Nat) (N : Nat) (r : Ab) (i x y : Nat) : Nat × Nat × Ab :=
  if (num T N 1 10 i).1 = 0 then clP4 T N r (num T N 1 10 i).2.2.1 x y (num T N 1 10 i).2.2.2 else ((num T N 1 10 i).1, (num T N 1 10 i).2.1, r)
def clP2 (T : Nat → Nat) (N : Nat) (r : Ab) (i x : Nat) : Nat × Nat × Ab :=
  if (num T N 0 (r 0 3) i).1 = 0 then clP3 T N r (num T N 0 (r 0 3) i).2.2.1 x (num T N 0 (r 0 3) i).2.2.2 else ((num T N 0 (r 0 3) i).1, (num T N 0 (r 0 3) i).2.1, r)
def clP (T : Nat → Nat) (N : Nat) (r : Ab) (i : Nat) : Nat × Nat × Ab :=
  if (num T N 0 4 i).1 = 0 then clP2 T N r (num T N 0 4 i).2.2.1 (num T N 0 4 i).2.2.2 else ((num T N 0 4 i).1, (num T N 0 4 i).2.1, r)
def clE (T : Nat → Nat) (N : Nat) (z : Nat × Nat × Ab) : Nat × Nat × Ab :=
  if z.1 = 0 then (if sk T N (z.2.2 0 0) < N ∧ T (sk T N (z.2.2 0 0)) = 59 then (0, 0, atA z.2.2 (sk T N (z.2.2 0 0) + 1)) else (1, sk T N (z.2.2 0 0), z.2.2)) else z
/-- a clause that begins with the letter at p -/
def clC (T : Nat → Nat) (N : Nat) (r : Ab) (p : Nat) : Nat × Nat × Ab :=
  if T p = 111 then (if r 0 1 = 0 then clE T N (clO T N r (p + 1)) else (3, p, r))
  else if r 0 1 = 0 then (1, p, r)
  else if T p = 118 then (if r 0 3 = 4 then (3, p, r) else clE T N (clV T N r (p + 1)))
  else if T p = 112 then (if r 0 4 = 7 then (3, p, r) else clE T N (clP T N r (p + 1)))
  else (1, p, r)
/-! the reference: a clause -/
def RdM (T : Nat → Nat) (N : Nat) (r : Ab) (σ0 σ : Sg) : Prop :=
  (σ 132 14 = nI (r 0 1) ∧ σ 132 15 = nI (r 0 2) ∧ σ 132 16 = nI (r 0 3) ∧ σ 132 17 = nI (r 0 4)) ∧ (∀ v, v < r 0 3 → σ 138 v = nI (r 1 v)) ∧ (∀ p, p < r 0 4 → σ 139 p = nI (r 2 p) ∧ σ 140 p = nI (r 3 p) ∧ σ 141 p = nI (r 4 p) ∧ σ 142 p = nI (r 5 p)) ∧
  (∀ n k, scM n k = false → (n = 132 → k ≠ 11) → σ n k = σ0 n k)
/-- bounds of what is read -/
def Rb (N : Nat) (r : Ab) : Prop := (r 0 0 ≤ N ∧ r 0 1 ≤ 20 ∧ r 0 2 ≤ 9 ∧ r 0 3 ≤ 4 ∧ r 0 4 ≤ 7 ∧ (r 0 1 = 0 → r 0 3 = 0 ∧ r 0 4 = 0)) ∧ (∀ v, v < r 0 3 → r 1 v ≤ 99) ∧ ∀ p, p < r 0 4 → r 2 p ≤ 3 ∧ r 3 p < r 0 3 ∧ (1 ≤ r 4 p ∧ r 4 p ≤ 9) ∧ r 5 p ≤ 9
/-- the reference's cells behind a clause, or a part of it: z tells the fault, its place, what was read -/
def OkC (T : Nat → Nat) (N : Nat) (σ0 : Sg) (o : Option (Int32 × Sg)) (z : Nat × Nat × Ab) : Prop := ∃ τ, o = some (nI z.1, τ) ∧ (z.1 = 0 → RdM T N z.2.2 σ0 τ ∧ TxM T N (z.2.2 0 0) τ) ∧ (0 < z.1 → τ 132 11 = nI z.2.1 ∧ ∀ n k, scM n k = false → (n = 132 → k ≠ 11) → τ n k = σ0 n k)
theorem RdM.num {T : Nat → Nat} {N : Nat} {r : Ab} {σ0 σ τ : Sg} (h : RdM T N r σ0 σ) (e : ∀ n k, (n = 132 → k ≠ 11 ∧ k ≠ 12 ∧ k ≠ 13) → τ n k = σ n k) : RdM T N r σ0 τ := by
  obtain ⟨h1, h2, h3, h4⟩ := h
  refine ⟨⟨?_, ?_, ?_, ?_⟩, fun v hv => ?_, fun p hp => ⟨?_, ?_, ?_, ?_⟩, fun n k hs hk => ?_⟩
  · rw [e _ _ (by omega)]; exact h1.1
  · rw [e _ _ (by omega)]; exact h1.2.1
  · rw [e _ _ (by omega)]; exact h1.2.2.1
  · rw [e _ _ (by omega)]; exact h1.2.2.2
  · rw [e _ _ (by omega)]; exact h2 v hv
  · rw [e _ _ (by omega)]; exact (h3 p hp).1
  · rw [e _ _ (by omega)]; exact (h3 p hp).2.1
  · rw [e _ _ (by omega)]; exact (h3 p hp).2.2.1
  · rw [e _ _ (by omega)]; exact (h3 p hp).2.2.2
  · rw [e n k (fun hn => ⟨hk hn, ?_, ?_⟩)]
    · exact h4 n k hs hk
    · intro hk12; rw [hn, hk12] at hs; cases hs
    · intro hk13; rw [hn, hk13] at hs; cases hs
theorem RdM.frame {T : Nat → Nat} {N : Nat} {r : Ab} {σ0 σ : Sg} (h : RdM T N r σ0 σ) : ∀ n k, scM n k = false → (n = 132 → k ≠ 11) → σ n k = σ0 n k := h.2.2.2
theorem npos {c : Nat} (h : ¬ c = 0) (h2 : c ≤ 3) : ¬ nI c ≤ 0 ∧ ¬ nI c = 0 := by
  rcases (show c = 1 ∨ c = 2 ∨ c = 3 by omega) with q | q | q <;> subst q <;> decide
theorem scM_131 {n k : Nat} (h : scM n k = false) : ¬ (n = 132 ∧ (k = 12 ∨ k = 13 ∨ k = 14 ∨ k = 15 ∨ k = 16 ∨ k = 17)) ∧ n ≠ 138 ∧ n ≠ 139 ∧ n ≠ 140 ∧ n ≠ 141 ∧ n ≠ 142 := by
  refine ⟨fun q => ?_, ?_, ?_, ?_, ?_, ?_⟩
  · obtain ⟨rfl, q⟩ := q
    rcases q with rfl | rfl | rfl | rfl | rfl | rfl <;> cases h
  all_goals
    intro e
    subst e
    simp [scM] at h
theorem M_O {T : Nat → Nat} {N : Nat} (hN : N ≤ 240) (hT : ∀ k, k < N → T k ≤ 255) {r : Ab} {i : Nat} {σ0 σ : Sg} (h : RdM T N r σ0 σ) (ht : TxM T N i σ) (hi : i ≤ N) : OkC T N σ0 (fX12_takeOracle σ) (clO T N r i) := by
  obtain ⟨τ, e, t1, t2, t3, t4⟩ := mNum (lo := 1) (hs := 21) (x2 := 20) hN hT ht hi (by omega) (by omega) (by decide)
  have h1 := h.num t4
  have hc := num_c (T := T) (N := N) (lo := 1) (hs := 21) (i := i)
  have ha := (num_at (T := T) (lo := 1) (hs := 21) hi).2.1
  have e : fX12_takeNumber σ 1 20 = _ := e
  unfold fX12_takeOracle clO
  rw [e, bi_some]
  generalize num T N 1 21 i = A at t1 t2 t3 hc ha ⊢
  by_cases q : A.1 = 0
  · rw [q, if_pos (by decide), if_pos rfl, t2 q, lt_eq]
    have t5 : TxM T N A.2.2.1 (st τ 132 14 (nI A.2.2.2)) := (t1 q).of (by omega) (by omega)
    obtain ⟨υ, e2, u1, u2, u3, u4⟩ := mNum (lo := 1) (hs := 10) (x2 := 9) hN hT t5 ha (by omega) (by omega) (by decide)
    have hc2 := num_c (T := T) (N := N) (lo := 1) (hs := 10) (i := A.2.2.1)
    have e2 : fX12_takeNumber (st τ 132 14 (nI A.2.2.2)) 1 9 = _ := e2
    rw [e2, bi_some, lt_eq]
    generalize num T N 1 10 A.2.2.1 = B at u1 u2 u3 hc2 ⊢
    have fr : ∀ n k, scM n k = false → (n = 132 → k ≠ 11) → st υ 132 15 (υ 132 13) n k = σ0 n k := fun n k hs hk => by
      have := (scM_131 hs).1
      rw [st_eq, if_neg (by omega), u4 n k (by omega), st_eq, if_neg (by omega)]
      exact h1.frame n k hs hk
    by_cases z : B.1 = 0
    · rw [z, if_pos rfl]
      refine ⟨_, rfl, fun _ => ⟨⟨⟨?_, ?_, ?_, ?_⟩, fun v hv => ?_, fun p hp => ?_, fr⟩, ?_⟩, fun hh => absurd hh (by show ¬ 0 < 0; omega)⟩
      · rw [st_eq, if_neg (by omega), u4 _ _ (by omega), st_at, if_pos rfl]; rfl
      · rw [st_at, if_pos rfl, u2 z]; rfl
      · rw [st_eq, if_neg (by omega), u4 _ _ (by omega), st_eq, if_neg (by omega)]; exact h1.1.2.2.1
      · rw [st_eq, if_neg (by omega), u4 _ _ (by omega), st_eq, if_neg (by omega)]; exact h1.1.2.2.2
      · rw [st_ne (by omega), u4 _ _ (by omega), st_ne (by omega)]; exact h1.2.1 v hv
      · rw [st_ne (by omega), st_ne (by omega), st_ne (by omega), st_ne (by omega), u4 _ _ (by omega), u4 _ _ (by omega), u4 _ _ (by omega), u4 _ _ (by omega), st_ne (by omega), st_ne (by omega), st_ne (by omega), st_ne (by omega)]; exact h1.2.2.1 p hp
      · exact (u1 z).of (by omega) (by omega)
    · rw [if_neg z]
      refine ⟨_, rfl, fun hh => absurd hh z, fun _ => ⟨?_, fr⟩⟩
      rw [st_eq, if_neg (by omega)]
      exact u3 (by omega)
  · rw [if_neg (npos q (by omega)).1, if_neg q]
    exact ⟨τ, rfl, fun hh => absurd hh q, fun _ => ⟨t3 (by omega), h1.frame⟩⟩
theorem M_V {T : Nat → Nat} {N : Nat} (hN : N ≤ 240) (hT : ∀ k, k < N → T k ≤ 255) {r : Ab} {i : Nat} {σ0 σ : Sg} (h : RdM T N r σ0 σ) (ht : TxM T N i σ) (hi : i ≤ N) (hV : r 0 3 < 4) : OkC T N σ0 (fX12_takeVillage σ) (clV T N r i) := by
  obtain ⟨τ, e, t1, t2, t3, t4⟩ := mNum (lo := 0) (hs := 100) (x2 := 99) hN hT ht hi (by omega) (by omega) (by decide)
  have h1 := h.num t4
  have hc := num_c (T := T) (N := N) (lo := 0) (hs := 100) (i := i)
  have e : fX12_takeNumber σ 0 99 = _ := e
  have eV := h1.1.2.2.1
  unfold fX12_takeVillage fX12_takeVillage_35 clV
  rw [e, bi_some, eV, if_pos (inb_nI hV (by omega)), cl_nI (by omega), lt_eq, st_ne (show 132 ≠ 138 by omega), eV, lt_eq, lt_eq]
  generalize num T N 0 100 i = A at t1 t2 t3 hc ⊢
  by_cases q : A.1 = 0
  · rw [q, if_pos (by decide), if_pos rfl, t2 q, li1, nI_add]
    refine ⟨_, rfl, fun _ => ⟨⟨⟨?_, ?_, ?_, ?_⟩, fun v hv => ?_, fun p hp => ?_, fun n k hs hk => ?_⟩, ?_⟩, fun hh => absurd hh (by show ¬ 0 < 0; omega)⟩
    · rw [st_eq, if_neg (by omega), st_ne (by omega)]; exact h1.1.1
    · rw [st_eq, if_neg (by omega), st_ne (by omega)]; exact h1.1.2.1
    · rw [st_at, if_pos rfl]; rfl
    · rw [st_eq, if_neg (by omega), st_ne (by omega)]; exact h1.1.2.2.2
    · have hv : v < r 0 3 + 1 := hv
      rw [st_ne (by omega), st_at]
      show _ = nI (va_up (r 1) (r 0 3) A.2.2.2 v)
      unfold va_up
      by_cases y : v = r 0 3
      · rw [if_pos y, if_pos y]
      · rw [if_neg y, if_neg y]; exact h1.2.1 v (by omega)
    · rw [st_ne (by omega), st_ne (by omega), st_ne (by omega), st_ne (by omega), st_ne (by omega), st_ne (by omega), st_ne (by omega), st_ne (by omega)]; exact h1.2.2.1 p hp
    · have := scM_131 hs
      rw [st_eq, if_neg (by omega), st_ne (by omega)]
      exact h1.frame n k hs hk
    · exact ((t1 q).of (by omega) (by omega)).of (by omega) (by omega)
  · rw [if_neg (npos q (by omega)).2, if_neg q]
    refine ⟨_, rfl, fun hh => absurd hh q, fun _ => ⟨?_, fun n k hs hk => ?_⟩⟩
    · rw [st_eq, if_neg (by omega), st_ne (by omega)]
      exact t3 (by omega)
    · have := scM_131 hs
      rw [st_eq, if_neg (by omega), st_ne (by omega)]
      exact h1.frame n k hs hk
