/-! the class: clauses -/
/-- the draft at d holds what is read -/
def DrC (r : Ab) (d : Nat) (σ : Sg) : Prop :=
  (σ d 0 = nI (if r 0 1 = 0 then 0 else 1) ∧ σ d 1 = nI (r 0 1) ∧ σ d 2 = nI (r 0 2) ∧ σ d 3 = nI (r 0 3) ∧ σ d 4 = nI (r 0 4)) ∧
  (∀ p, p < r 0 4 → σ (d + 1) p = nI (r 2 p) ∧ σ (d + 2) p = nI (r 3 p) ∧ σ (d + 3) p = nI (r 4 p) ∧ σ (d + 4) p = nI (r 5 p)) ∧
  (∀ v, v < r 0 3 → σ (d + 5) v = nI (r 1 v)) ∧ ∀ v, v < 4 → σ (d + 6) v = nI (ofV (r 0 4) (r 3) v)
theorem DrC.to {r : Ab} {d : Nat} {σ τ : Sg} (x : DrC r d σ) (e : ∀ m, d ≤ m → m < d + 7 → τ m = σ m) : DrC r d τ := by
  obtain ⟨x1, x2, x3, x4⟩ := x
  refine ⟨?_, fun p hp => ?_, fun v hv => ?_, fun v hv => ?_⟩
  · rw [e d (by omega) (by omega)]; exact x1
  · rw [e (d + 1) (by omega) (by omega), e (d + 2) (by omega) (by omega), e (d + 3) (by omega) (by omega), e (d + 4) (by omega) (by omega)]; exact x2 p hp
  · rw [e (d + 5) (by omega) (by omega)]; exact x3 v hv
  · rw [e (d + 6) (by omega) (by omega)]; exact x4 v hv
def FmK (d : Nat) (σ0 σ : Sg) : Prop := (∀ n, n ≠ 1 → ¬ (d ≤ n ∧ n < d + 7) → σ n = σ0 n) ∧ σ 1 1 = σ0 1 1
/-- the class's cells behind a clause -/
def OkD (T : Nat → Nat) (N d : Nat) (σ0 τ : Sg) (z : Nat × Nat × Ab) : Prop := FmK d σ0 τ ∧ (z.1 = 0 → DrC z.2.2 d τ ∧ TxK T N (z.2.2 0 0) τ) ∧ (0 < z.1 → FtK z.1 z.2.1 τ ∧ ∃ k, k ≤ 7 ∧ τ d 4 = nI k)
/-- fault, its place, the place -/
def NK (T : Nat → Nat) (N : Nat) (s : Nat × Nat × Nat) (σ : Sg) : Prop := (s.1 = 0 → TxK T N s.2.2 σ) ∧ (0 < s.1 → FtK s.1 s.2.1 σ)
def Sn (N : Nat) (s : Nat × Nat × Nat) : Prop := s.1 ≤ 3 ∧ (s.1 = 0 → s.2.2 ≤ N)
def nuS (T : Nat → Nat) (N lo hs : Nat) (s : Nat × Nat × Nat) : Nat × Nat × Nat := if s.1 = 0 then ((num T N lo hs s.2.2).1, (num T N lo hs s.2.2).2.1, (num T N lo hs s.2.2).2.2.1) else s
def enS (T : Nat → Nat) (N : Nat) (s : Nat × Nat × Nat) : Nat × Nat × Nat := if s.1 = 0 then (if sk T N s.2.2 < N ∧ T (sk T N s.2.2) = 59 then (0, 0, sk T N s.2.2 + 1) else (1, sk T N s.2.2, 0)) else s
theorem nuS_n {T : Nat → Nat} {N lo hs : Nat} {s : Nat × Nat × Nat} (h : Sn N s) : Sn N (nuS T N lo hs s) := by
  unfold nuS
  by_cases q : s.1 = 0
  · rw [if_pos q]
    exact ⟨by have := num_c (T := T) (N := N) (lo := lo) (hs := hs) (i := s.2.2); show (num T N lo hs s.2.2).1 ≤ 3; omega, fun _ => (num_at (T := T) (lo := lo) (hs := hs) (h.2 q)).2.1⟩
  · rw [if_neg q]; exact h
theorem NK.to {T : Nat → Nat} {N : Nat} {s : Nat × Nat × Nat} {σ τ : Sg} (h : NK T N s σ) (e1 : τ 1 = σ 1) (e2 : τ 2 = σ 2) : NK T N s τ := by
  refine ⟨fun c => (h.1 c).to (fun k _ => by rw [e1]) e2, fun c => ?_⟩
  have := h.2 c
  unfold FtK
  rw [e1]
  exact this
theorem cNumS {T : Nat → Nat} {N lo hs : Nat} (hN : N ≤ 240) (hT : ∀ k, k < N → T k ≤ 255) {σ : Sg} {s : Nat × Nat × Nat} (h : NK T N s σ) (hs3 : Sn N s) (hlo : lo ≤ 100) (hhs : hs ≤ 100) {x1 x2 : Int32} (hx1 : x1 = nI lo) (hx2 : x2 = nI hs - nI 1) : ∃ v τ, fX8_readNumber σ x1 x2 = some (nI v, τ) ∧ v ≤ 9999 ∧ ((nuS T N lo hs s).1 = 0 → v = (num T N lo hs s.2.2).2.2.2 ∧ (num T N lo hs s.2.2).1 = 0) ∧ NK T N (nuS T N lo hs s) τ ∧ (s.1 = 0 → τ 1 5 = nI (num T N lo hs s.2.2).2.1) ∧ (∀ n, n ≠ 1 → τ n = σ n) ∧ τ 1 1 = σ 1 1 := by
  subst hx1
  unfold nuS
  by_cases q : s.1 = 0
  · obtain ⟨v, τ, e, e1, e2, e3, e4, e5, e6⟩ := cNum (lo := lo) (hs := hs) hN hT (h.1 q) (hs3.2 q) hlo hhs hx2
    rw [if_pos q]
    exact ⟨v, τ, e, e1, fun c => ⟨(e2 c).1, c⟩, ⟨fun c => (e2 c).2, e3⟩, fun _ => e4, e5, e6⟩
  · rw [if_neg q]
    exact ⟨0, σ, cNumF (h.2 (by omega)).1 q hs3.1 _ _, by omega, fun c => absurd c q, h, fun c => absurd c q, fun _ _ => rfl, rfl⟩
theorem cEndS {T : Nat → Nat} {N : Nat} (hN : N ≤ 240) (hT : ∀ k, k < N → T k ≤ 255) {σ : Sg} {s : Nat × Nat × Nat} (h : NK T N s σ) (hs3 : Sn N s) : ∃ τ, fX8_readEnd σ = some τ ∧ NK T N (enS T N s) τ ∧ (∀ n, n ≠ 1 → τ n = σ n) ∧ τ 1 1 = σ 1 1 := by
  unfold fX8_readEnd fX8_readEnd_45 enS
  by_cases q : s.1 = 0
  · have hx := h.1 q
    have hi := hs3.2 q
    have hx2 : TxK T N (sk T N s.2.2) (st σ 1 4 (nI (sk T N s.2.2))) := hx.at'
    rw [if_pos q, hx.2.2.1, if_pos (show nI 0 = 0 from rfl), cSkip hN hT hx hi, bv_some, hx2.1.1, hx2.2.1, cFail hx2.2.2.1, bv_some]
    generalize hp : sk T N s.2.2 = p at hx2 ⊢
    have hpl : p ≤ N := by rw [← hp]; exact sk_le hi
    have bad : NK T N (1, p, 0) (st (st (st σ 1 4 (nI p)) 1 2 1) 1 3 (nI p)) ∧ (∀ n, n ≠ 1 → st (st (st σ 1 4 (nI p)) 1 2 1) 1 3 (nI p) n = σ n) ∧ st (st (st σ 1 4 (nI p)) 1 2 1) 1 3 (nI p) 1 1 = σ 1 1 := by
      refine ⟨⟨fun c => absurd c (by show ¬ 1 = 0; omega), fun _ => ⟨?_, ?_⟩⟩, fun n hn => by rw [st_ne hn, st_ne hn, st_ne hn], ?_⟩
      · rw [st_at, if_neg (by omega), st_at, if_pos rfl]; rfl
      · rw [st_at, if_pos rfl]
      · rw [st_at, if_neg (by omega), st_at, if_neg (by omega), st_at, if_neg (by omega)]
    by_cases z : p < N
    · have ht := hT p z
      rw [if_neg (show ¬ nI N ≤ nI p by rw [le_nI (by omega) (by omega)]; omega), cLetter hN hx2 z, bi_some, hx2.2.1, cFail hx2.2.2.1, bv_some]
      by_cases w : T p = 59
      · rw [if_pos (show nI (T p) = 59 by rw [w]; rfl), if_pos ⟨z, w⟩, li1, nI_add, lt_eq, st_st]
        refine ⟨_, rfl, ⟨fun _ => hx.at', fun c => absurd c (by show ¬ 0 < 0; omega)⟩, fun n hn => by rw [st_ne hn], by rw [st_at, if_neg (by omega)]⟩
      · rw [if_neg (show ¬ nI (T p) = 59 by rw [li59, eq_nI (by omega) (by omega)]; exact w), if_neg (fun c => w c.2)]
        exact ⟨_, rfl, bad⟩
    · rw [if_pos (show nI N ≤ nI p by rw [le_nI (by omega) (by omega)]; omega), if_neg (fun c => z c.1)]
      exact ⟨_, rfl, bad⟩
  · have hf := (h.2 (by omega)).1
    rw [if_neg q, hf, if_neg (npos q hs3.1).2]
    exact ⟨σ, rfl, h, fun _ _ => rfl, rfl⟩
theorem enS_n {T : Nat → Nat} {N : Nat} {s : Nat × Nat × Nat} (h : Sn N s) : (enS T N s).1 ≤ 3 := by
  unfold enS
  split
  · split
    · exact (by omega : (0 : Nat) ≤ 3)
    · exact (by omega : (1 : Nat) ≤ 3)
  · exact h.1
theorem clE_S (T : Nat → Nat) (N : Nat) (z : Nat × Nat × Ab) (s : Nat × Nat × Nat) (h1 : s.1 = z.1) (h2 : 0 < z.1 → s.2.1 = z.2.1) (h3 : z.1 = 0 → s.2.2 = z.2.2 0 0) : (clE T N z).1 = (enS T N s).1 ∧ (0 < (enS T N s).1 → (clE T N z).2.1 = (enS T N s).2.1) ∧ ((enS T N s).1 = 0 → z.1 = 0 ∧ (clE T N z).2.2 = atA z.2.2 (enS T N s).2.2) := by
  unfold clE enS
  rw [h1]
  by_cases q : z.1 = 0
  · rw [if_pos q, if_pos q, h3 q]
    by_cases w : sk T N (z.2.2 0 0) < N ∧ T (sk T N (z.2.2 0 0)) = 59
    · rw [if_pos w, if_pos w]
      exact ⟨rfl, fun c => absurd c (by show ¬ 0 < 0; omega), fun _ => ⟨q, rfl⟩⟩
    · rw [if_neg w, if_neg w]
      exact ⟨rfl, fun _ => rfl, fun c => absurd c (by show ¬ 1 = 0; omega)⟩
  · rw [if_neg q, if_neg q]
    exact ⟨h1.symm, fun _ => (h2 (by omega)).symm, fun c => absurd (h1 ▸ c) q⟩
theorem cO {T : Nat → Nat} {N d i : Nat} (hN : N ≤ 240) (hT : ∀ k, k < N → T k ≤ 255) (hd : 3 ≤ d) {r : Ab} {σ0 σ : Sg} (x : DrC r d σ) (hr : Rb N r) (h0 : r 0 3 = 0 ∧ r 0 4 = 0) (t : TxK T N i σ) (hi : i ≤ N) (f : FmK d σ0 σ) : ∃ τ, fX8_readOracle d σ = some τ ∧ OkD T N d σ0 τ (clE T N (clO T N r i)) := by
  have n0 : NK T N (0, 0, i) σ := ⟨fun _ => t, fun c => absurd c (by show ¬ 0 < 0; omega)⟩
  have b0 : Sn N (0, 0, i) := ⟨by show 0 ≤ 3; omega, fun _ => hi⟩
  obtain ⟨v1, τ1, e1, l1, k1, n1, _, f1, g1⟩ := cNumS (lo := 1) (hs := 21) (x1 := 1) (x2 := 20) hN hT n0 b0 (by omega) (by omega) (by decide) (by decide)
  have b1 := nuS_n (T := T) (lo := 1) (hs := 21) b0
  have n1' : NK T N (nuS T N 1 21 (0, 0, i)) (st τ1 d 1 (nI v1)) := n1.to (st_ne (by omega)) (st_ne (by omega))
  obtain ⟨v2, τ2, e2, l2, k2, n2, _, f2, g2⟩ := cNumS (lo := 1) (hs := 10) (x1 := 1) (x2 := 9) hN hT n1' b1 (by omega) (by omega) (by decide) (by decide)
  have b2 := nuS_n (T := T) (lo := 1) (hs := 10) b1
  have n2' : NK T N (nuS T N 1 10 (nuS T N 1 21 (0, 0, i))) (st τ2 d 2 (nI v2)) := n2.to (st_ne (by omega)) (st_ne (by omega))
  obtain ⟨τ3, e3, n3, f3, g3⟩ := cEndS hN hT n2' b2
  unfold fX8_readOracle
  rw [e1, bi_some, lt_eq, e2, bi_some, lt_eq, e3, bv_some, lt_eq]
  refine ⟨_, rfl, ?_⟩
  have hs : (nuS T N 1 10 (nuS T N 1 21 (0, 0, i))).1 = (clO T N r i).1 ∧ (0 < (clO T N r i).1 → (nuS T N 1 10 (nuS T N 1 21 (0, 0, i))).2.1 = (clO T N r i).2.1) ∧ ((clO T N r i).1 = 0 → (nuS T N 1 10 (nuS T N 1 21 (0, 0, i))).2.2 = (clO T N r i).2.2 0 0 ∧ (clO T N r i).2.2 = rO r (nuS T N 1 10 (nuS T N 1 21 (0, 0, i))).2.2 v1 v2 ∧ (1 ≤ v1 ∧ v1 ≤ 20)) := by
    have e0 : nuS T N 1 21 (0, 0, i) = ((num T N 1 21 i).1, (num T N 1 21 i).2.1, (num T N 1 21 i).2.2.1) := rfl
    rw [e0] at k1 k2 ⊢
    unfold nuS clO
    unfold nuS at k2
    have ok := num_ok (T := T) (N := N) (lo := 1) (hs := 21) (i := i)
    by_cases q : (num T N 1 21 i).1 = 0
    · have k1 := k1 q
      have k1 : v1 = (num T N 1 21 i).2.2.2 ∧ _ := k1
      rw [if_pos (show ((num T N 1 21 i).1, (num T N 1 21 i).2.1, (num T N 1 21 i).2.2.1).1 = 0 from q), if_pos q]
      rw [if_pos (show ((num T N 1 21 i).1, (num T N 1 21 i).2.1, (num T N 1 21 i).2.2.1).1 = 0 from q)] at k2
      by_cases z : (num T N 1 10 (num T N 1 21 i).2.2.1).1 = 0
      · have k2 := k2 z
        have k2 : v2 = (num T N 1 10 (num T N 1 21 i).2.2.1).2.2.2 ∧ _ := k2
        rw [if_pos z]
        refine ⟨z, fun c => absurd c (by show ¬ 0 < 0; omega), fun _ => ⟨rfl, ?_, by rw [k1.1]; have := ok q; omega⟩⟩
        rw [k1.1, k2.1]
      · rw [if_neg z]
        exact ⟨rfl, fun _ => rfl, fun c => absurd c z⟩
    · rw [if_neg (show ¬ ((num T N 1 21 i).1, (num T N 1 21 i).2.1, (num T N 1 21 i).2.2.1).1 = 0 from q), if_neg q]
      exact ⟨rfl, fun _ => rfl, fun c => absurd c q⟩
  generalize nuS T N 1 10 (nuS T N 1 21 (0, 0, i)) = s at hs n3
  obtain ⟨s1, s2, s3⟩ := hs
  obtain ⟨c1, c2, c3⟩ := clE_S T N (clO T N r i) s s1 s2 (fun c => (s3 c).1)
  have fr : ∀ n, n ≠ 1 → n ≠ d → st τ3 d 0 1 n = σ n := fun n h1 h2 => by rw [st_ne h2, f3 n h1, st_ne h2, f2 n h1, st_ne h2, f1 n h1]
  have rw1 : ∀ k, st τ3 d 0 1 1 k = τ3 1 k := fun k => by rw [st_ne (by omega)]
  have rd : ∀ k, k ≠ 0 → k ≠ 1 → k ≠ 2 → st τ3 d 0 1 d k = σ d k := fun k h0 h1 h2 => by rw [st_at, if_neg h0, f3 d (by omega), st_at, if_neg h2, f2 d (by omega), st_at, if_neg h1, f1 d (by omega)]
  refine ⟨⟨fun n h1 h2 => ?_, ?_⟩, fun c => ?_, fun c => ?_⟩
  · rw [fr n h1 (by omega)]; exact f.1 n h1 h2
  · rw [rw1, g3, st_ne (by omega), g2, st_ne (by omega), g1]; exact f.2
  · rw [c1] at c
    obtain ⟨z0, z1⟩ := c3 c
    obtain ⟨_, z2, z3⟩ := s3 z0
    rw [z1, z2]
    have tx : TxK T N (enS T N s).2.2 (st τ3 d 0 1) := (n3.1 c).to (fun k _ => rw1 k) (by rw [st_ne (by omega)])
    refine ⟨⟨⟨?_, ?_, ?_, ?_, ?_⟩, fun p hp => ?_, fun v hv => ?_, fun v hv => ?_⟩, tx⟩
    · rw [st_at, if_pos rfl]
      show 1 = nI (if v1 = 0 then 0 else 1)
      rw [if_neg (by omega)]; rfl
    · rw [st_at, if_neg (by omega), f3 d (by omega), st_at, if_neg (by omega), f2 d (by omega), st_at, if_pos rfl]; rfl
    · rw [st_at, if_neg (by omega), f3 d (by omega), st_at, if_pos rfl]; rfl
    · rw [rd 3 (by omega) (by omega) (by omega)]; exact x.1.2.2.2.1
    · rw [rd 4 (by omega) (by omega) (by omega)]; exact x.1.2.2.2.2
    · exact absurd (show p < r 0 4 from hp) (by omega)
    · exact absurd (show v < r 0 3 from hv) (by omega)
    · rw [fr (d + 6) (by omega) (by omega)]; exact x.2.2.2 v hv
  · rw [c1] at c
    rw [c1, c2 c]
    refine ⟨?_, r 0 4, by omega, ?_⟩
    · have := n3.2 c
      unfold FtK
      rw [rw1, rw1]; exact this
    · rw [rd 4 (by omega) (by omega) (by omega)]; exact x.1.2.2.2.2
theorem cV {T : Nat → Nat} {N d i : Nat} (hN : N ≤ 240) (hT : ∀ k, k < N → T k ≤ 255) (hd : 3 ≤ d) {r : Ab} {σ0 σ : Sg} (x : DrC r d σ) (hr : Rb N r) (h0 : r 0 3 < 4) (t : TxK T N i σ) (hi : i ≤ N) (f : FmK d σ0 σ) : ∃ τ, fX8_readVillage d σ = some τ ∧ OkD T N d σ0 τ (clE T N (clV T N r i)) := by
  have n0 : NK T N (0, 0, i) σ := ⟨fun _ => t, fun c => absurd c (by show ¬ 0 < 0; omega)⟩
  have b0 : Sn N (0, 0, i) := ⟨by show 0 ≤ 3; omega, fun _ => hi⟩
  obtain ⟨v1, τ1, e1, l1, k1, n1, _, f1, g1⟩ := cNumS (lo := 0) (hs := 100) (x1 := 0) (x2 := 99) hN hT n0 b0 (by omega) (by omega) (by decide) (by decide)
  have b1 := nuS_n (T := T) (lo := 0) (hs := 100) b0
  obtain ⟨τ3, e3, n3, f3, g3⟩ := cEndS hN hT n1 b1
  have e33 : τ3 d 3 = nI (r 0 3) := by rw [f3 d (by omega), f1 d (by omega)]; exact x.1.2.2.2.1
  have ec : (nI (r 0 3)).toNatClampNeg = r 0 3 := cl_nI (by omega)
  unfold fX8_readVillage fX4_addVillage
  rw [e1, bi_some, e3, bv_some, e33, if_pos (show nI (r 0 3) < 4 by rw [li4, lt_nI (by omega) (by omega)]; exact h0), if_pos (inb_nI h0 (by omega)), ec, lt_eq, st_ne (show d ≠ d + 5 by omega), e33, li1, nI_add, lt_eq, bv_some]
  refine ⟨_, rfl, ?_⟩
  have hs : (nuS T N 0 100 (0, 0, i)).1 = (clV T N r i).1 ∧ (0 < (clV T N r i).1 → (nuS T N 0 100 (0, 0, i)).2.1 = (clV T N r i).2.1) ∧ ((clV T N r i).1 = 0 → (nuS T N 0 100 (0, 0, i)).2.2 = (clV T N r i).2.2 0 0 ∧ (clV T N r i).2.2 = rV r (nuS T N 0 100 (0, 0, i)).2.2 v1) := by
    have e0 : nuS T N 0 100 (0, 0, i) = ((num T N 0 100 i).1, (num T N 0 100 i).2.1, (num T N 0 100 i).2.2.1) := rfl
    rw [e0] at k1 ⊢
    unfold clV
    by_cases q : (num T N 0 100 i).1 = 0
    · have k1 := k1 q
      have k1 : v1 = (num T N 0 100 i).2.2.2 ∧ _ := k1
      rw [if_pos q]
      exact ⟨q, fun c => absurd c (by show ¬ 0 < 0; omega), fun _ => ⟨rfl, by rw [k1.1]⟩⟩
    · rw [if_neg q]
      exact ⟨rfl, fun _ => rfl, fun c => absurd c q⟩
  generalize nuS T N 0 100 (0, 0, i) = s at hs n3
  obtain ⟨s1, s2, s3⟩ := hs
  obtain ⟨c1, c2, c3⟩ := clE_S T N (clV T N r i) s s1 s2 (fun c => (s3 c).1)
  generalize hU : st (st τ3 (d + 5) (r 0 3) (nI v1)) d 3 (nI (r 0 3 + 1)) = U
  have fr : ∀ n, n ≠ 1 → n ≠ d → n ≠ d + 5 → U n = σ n := fun n h1 h2 h3 => by rw [← hU, st_ne h2, st_ne h3, f3 n h1, f1 n h1]
  have rw1 : ∀ k, U 1 k = τ3 1 k := fun k => by rw [← hU, st_ne (by omega), st_ne (by omega)]
  have rd : ∀ k, k ≠ 3 → U d k = σ d k := fun k h0 => by rw [← hU, st_at, if_neg h0, st_ne (by omega), f3 d (by omega), f1 d (by omega)]
  refine ⟨⟨fun n h1 h2 => ?_, ?_⟩, fun c => ?_, fun c => ?_⟩
  · rw [fr n h1 (by omega) (by omega)]; exact f.1 n h1 h2
  · rw [rw1, g3, g1]; exact f.2
  · rw [c1] at c
    obtain ⟨z0, z1⟩ := c3 c
    obtain ⟨_, z2⟩ := s3 z0
    rw [z1, z2]
    have tx : TxK T N (enS T N s).2.2 U := (n3.1 c).to (fun k _ => rw1 k) (by rw [← hU, st_ne (by omega), st_ne (by omega)])
    refine ⟨⟨⟨?_, ?_, ?_, ?_, ?_⟩, fun p hp => ?_, fun v hv => ?_, fun v hv => ?_⟩, tx⟩
    · rw [rd 0 (by omega)]; exact x.1.1
    · rw [rd 1 (by omega)]; exact x.1.2.1
    · rw [rd 2 (by omega)]; exact x.1.2.2.1
    · rw [← hU, st_at, if_pos rfl]; rfl
    · rw [rd 4 (by omega)]; exact x.1.2.2.2.2
    · rw [fr (d + 1) (by omega) (by omega) (by omega), fr (d + 2) (by omega) (by omega) (by omega), fr (d + 3) (by omega) (by omega) (by omega), fr (d + 4) (by omega) (by omega) (by omega)]; exact x.2.1 p hp
    · have hv : v < r 0 3 + 1 := hv
      rw [← hU, st_ne (by omega), st_at]
      show _ = nI (va_up (r 1) (r 0 3) v1 v)
      unfold va_up
      by_cases c : v = r 0 3
      · rw [if_pos c, if_pos c]
      · rw [if_neg c, if_neg c, f3 _ (by omega), f1 _ (by omega)]; exact x.2.2.1 v (by omega)
    · rw [fr (d + 6) (by omega) (by omega) (by omega)]; exact x.2.2.2 v hv
  · rw [c1] at c
    rw [c1, c2 c]
    refine ⟨?_, r 0 4, hr.1.2.2.2.2.1, ?_⟩
    · have := n3.2 c
      unfold FtK
      rw [rw1, rw1]; exact this
    · rw [rd 4 (by omega)]; exact x.1.2.2.2.2
