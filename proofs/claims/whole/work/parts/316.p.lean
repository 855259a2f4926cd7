/-! the class: a clause, the text -/
theorem FmK.st1 {d : Nat} {σ0 σ : Sg} (f : FmK d σ0 σ) {k : Nat} {v : Int32} (hk : k ≠ 1) : FmK d σ0 (st σ 1 k v) := ⟨fun n h1 h2 => by rw [st_ne h1]; exact f.1 n h1 h2, by rw [st_at, if_neg (by omega)]; exact f.2⟩
theorem cC {T : Nat → Nat} {N d p : Nat} (hN : N ≤ 240) (hT : ∀ k, k < N → T k ≤ 255) (hd : 3 ≤ d) {r : Ab} {σ0 σ : Sg} (x : DrC r d σ) (hr : Rb N r) (t : TxK T N p σ) (hp : p < N) (f : FmK d σ0 σ) : ∃ τ, fX8_readClause d σ = some τ ∧ OkD T N d σ0 τ (clC T N r p) := by
  obtain ⟨b1, b2, b3, b4, b5, b6⟩ := hr.1
  have hc := hT p hp
  have e0 : σ d 0 = nI (if r 0 1 = 0 then 0 else 1) := x.1.1
  have e3 : σ d 3 = nI (r 0 3) := x.1.2.2.2.1
  have e4 : σ d 4 = nI (r 0 4) := x.1.2.2.2.2
  have x2 : DrC r d (st σ 1 4 (nI (p + 1))) := x.to (fun m h1 h2 => st_ne (by omega))
  have t2 : TxK T N (p + 1) (st σ 1 4 (nI (p + 1))) := t.at'
  have f2 : FmK d σ0 (st σ 1 4 (nI (p + 1))) := f.st1 (by omega)
  have bad : ∀ c, ¬ c = 0 → c ≤ 3 → OkD T N d σ0 (st (st σ 1 2 (nI c)) 1 3 (nI p)) (c, p, r) := by
    intro c h1 h2
    refine ⟨(f.st1 (by omega)).st1 (by omega), fun h => absurd h h1, fun _ => ⟨⟨?_, ?_⟩, r 0 4, b5, ?_⟩⟩
    · rw [st_at, if_neg (by omega), st_at, if_pos rfl]
    · rw [st_at, if_pos rfl]
    · rw [st_ne (by omega), st_ne (by omega)]; exact e4
  have c111 : (nI (T p) = 111) = (T p = 111) := by rw [show (111 : Int32) = nI 111 by decide, eq_nI (by omega) (by omega)]
  have c118 : (nI (T p) = 118) = (T p = 118) := by rw [show (118 : Int32) = nI 118 by decide, eq_nI (by omega) (by omega)]
  have c112 : (nI (T p) = 112) = (T p = 112) := by rw [show (112 : Int32) = nI 112 by decide, eq_nI (by omega) (by omega)]
  have fw : ∀ c, c ≤ 3 → fX8_faultOfWord d σ (nI (T p)) = some (nI c, σ) → fX8_readClause d σ = (if c = 0 then (if T p = 111 then bv (fX8_readOracle d (st σ 1 4 (nI (p + 1)))) (fun σ_9 => some σ_9) else (if T p = 118 then bv (fX8_readVillage d (st σ 1 4 (nI (p + 1)))) (fun σ_8 => some σ_8) else bv (fX8_readPerson d (st σ 1 4 (nI (p + 1)))) (fun σ_7 => some σ_7))) else some (st (st σ 1 2 (nI c)) 1 3 (nI p))) := by
    intro c h3 h
    unfold fX8_readClause
    rw [cLetter hN t hp, bi_some, h, bi_some, t.2.1, li1, nI_add, lt_eq, cFail t.2.2.1, bv_some]
    by_cases w : c = 0
    · rw [if_pos (show nI c = 0 by rw [w]; rfl), if_pos w]
      simp only [c111, c118]
    · rw [if_neg (npos w h3).2, if_neg w]
  have s1 : (1 : Int32) = nI 1 := rfl
  have s3 : (3 : Int32) = nI 3 := rfl
  have s0 : (0 : Int32) = nI 0 := rfl
  by_cases q1 : T p = 111
  · by_cases q2 : r 0 1 = 0
    · have ew : fX8_faultOfWord d σ (nI (T p)) = some (nI 0, σ) := by
        unfold fX8_faultOfWord
        rw [e0, if_pos q2, if_pos (show nI 0 = 0 from rfl), if_pos (c111 ▸ q1), s0]
      rw [fw 0 (by omega) ew, if_pos rfl, if_pos q1]
      unfold clC
      rw [if_pos q1, if_pos q2]
      obtain ⟨τ, e, ok⟩ := cO hN hT hd x2 hr (b6 q2) t2 (by omega) f2
      rw [e, bv_some]
      exact ⟨τ, rfl, ok⟩
    · have ew : fX8_faultOfWord d σ (nI (T p)) = some (nI 3, σ) := by
        unfold fX8_faultOfWord
        rw [e0, if_neg q2, if_neg (show ¬ nI 1 = 0 by decide), if_pos (c111 ▸ q1), s3]
      rw [fw 3 (by omega) ew, if_neg (show ¬ 3 = 0 by omega)]
      unfold clC
      rw [if_pos q1, if_neg q2]
      exact ⟨_, rfl, bad 3 (by omega) (by omega)⟩
  · by_cases q2 : r 0 1 = 0
    · have ew : fX8_faultOfWord d σ (nI (T p)) = some (nI 1, σ) := by
        unfold fX8_faultOfWord
        rw [e0, if_pos q2, if_pos (show nI 0 = 0 from rfl), if_neg (fun c => q1 (c111 ▸ c)), s1]
      rw [fw 1 (by omega) ew, if_neg (show ¬ 1 = 0 by omega)]
      unfold clC
      rw [if_neg q1, if_pos q2]
      exact ⟨_, rfl, bad 1 (by omega) (by omega)⟩
    · by_cases q3 : T p = 118
      · by_cases q4 : r 0 3 = 4
        · have ew : fX8_faultOfWord d σ (nI (T p)) = some (nI 3, σ) := by
            unfold fX8_faultOfWord
            rw [e0, if_neg q2, if_neg (show ¬ nI 1 = 0 by decide), if_neg (fun c => q1 (c111 ▸ c)), if_pos (c118 ▸ q3), e3, if_pos (show (4 : Int32) ≤ nI (r 0 3) by rw [li4, le_nI (by omega) (by omega)]; omega), s3]
          rw [fw 3 (by omega) ew, if_neg (show ¬ 3 = 0 by omega)]
          unfold clC
          rw [if_neg q1, if_neg q2, if_pos q3, if_pos q4]
          exact ⟨_, rfl, bad 3 (by omega) (by omega)⟩
        · have ew : fX8_faultOfWord d σ (nI (T p)) = some (nI 0, σ) := by
            unfold fX8_faultOfWord
            rw [e0, if_neg q2, if_neg (show ¬ nI 1 = 0 by decide), if_neg (fun c => q1 (c111 ▸ c)), if_pos (c118 ▸ q3), e3, if_neg (show ¬ (4 : Int32) ≤ nI (r 0 3) by rw [li4, le_nI (by omega) (by omega)]; omega), s0]
          rw [fw 0 (by omega) ew, if_pos rfl, if_neg q1, if_pos q3]
          unfold clC
          rw [if_neg q1, if_neg q2, if_pos q3, if_neg q4]
          obtain ⟨τ, e, ok⟩ := cV hN hT hd x2 hr (by omega) t2 (by omega) f2
          rw [e, bv_some]
          exact ⟨τ, rfl, ok⟩
      · by_cases q5 : T p = 112
        · by_cases q4 : r 0 4 = 7
          · have ew : fX8_faultOfWord d σ (nI (T p)) = some (nI 3, σ) := by
              unfold fX8_faultOfWord
              rw [e0, if_neg q2, if_neg (show ¬ nI 1 = 0 by decide), if_neg (fun c => q1 (c111 ▸ c)), if_neg (fun c => q3 (c118 ▸ c)), if_pos (c112 ▸ q5), e4, if_pos (show (7 : Int32) ≤ nI (r 0 4) by rw [li7, le_nI (by omega) (by omega)]; omega), s3]
            rw [fw 3 (by omega) ew, if_neg (show ¬ 3 = 0 by omega)]
            unfold clC
            rw [if_neg q1, if_neg q2, if_neg q3, if_pos q5, if_pos q4]
            exact ⟨_, rfl, bad 3 (by omega) (by omega)⟩
          · have ew : fX8_faultOfWord d σ (nI (T p)) = some (nI 0, σ) := by
              unfold fX8_faultOfWord
              rw [e0, if_neg q2, if_neg (show ¬ nI 1 = 0 by decide), if_neg (fun c => q1 (c111 ▸ c)), if_neg (fun c => q3 (c118 ▸ c)), if_pos (c112 ▸ q5), e4, if_neg (show ¬ (7 : Int32) ≤ nI (r 0 4) by rw [li7, le_nI (by omega) (by omega)]; omega), s0]
            rw [fw 0 (by omega) ew, if_pos rfl, if_neg q1, if_neg q3]
            unfold clC
            rw [if_neg q1, if_neg q2, if_neg q3, if_pos q5, if_neg q4]
            obtain ⟨τ, e, ok⟩ := cP hN hT hd x2 hr (by omega) t2 (by omega) f2
            rw [e, bv_some]
            exact ⟨τ, rfl, ok⟩
        · have ew : fX8_faultOfWord d σ (nI (T p)) = some (nI 1, σ) := by
            unfold fX8_faultOfWord
            rw [e0, if_neg q2, if_neg (show ¬ nI 1 = 0 by decide), if_neg (fun c => q1 (c111 ▸ c)), if_neg (fun c => q3 (c118 ▸ c)), if_neg (fun c => q5 (c112 ▸ c)), s1]
          rw [fw 1 (by omega) ew, if_neg (show ¬ 1 = 0 by omega)]
          unfold clC
          rw [if_neg q1, if_neg q2, if_neg q3, if_neg q5]
          exact ⟨_, rfl, bad 1 (by omega) (by omega)⟩
/-- the class's cells behind the text -/
def OkL (N d : Nat) (σ0 τ : Sg) (z : Nat × Nat × Ab) : Prop := FmK d σ0 τ ∧ z.1 ≤ 3 ∧ (z.1 = 0 → DrC z.2.2 d τ ∧ Rb N z.2.2 ∧ τ 1 2 = nI 0 ∧ τ 1 3 = fI 0) ∧ (0 < z.1 → FtK z.1 z.2.1 τ ∧ ∃ k, k ≤ 7 ∧ τ d 4 = nI k)
theorem cRead {T : Nat → Nat} {N d : Nat} (hN : N ≤ 240) (hT : ∀ k, k < N → T k ≤ 255) (hd : 3 ≤ d) {σ0 : Sg} (kx : Sg → Option Sg) : ∀ (b fu : Nat) (r : Ab) (σ : Sg) (c : Nat), N < r 0 0 + b → b + 1 < fu → c ≤ r 0 0 → DrC r d σ → Rb N r → TxK T N (sk T N (r 0 0)) σ → FmK d σ0 σ → ∃ τ, fX8_read_25 d fu kx σ (nI c) = kx τ ∧ OkL N d σ0 τ (rdl T N b r) := by
  intro b
  induction b with
  | zero => intro fu r σ c h1 _ _ _ hr _ _; have := hr.1.1; omega
  | succ b ih =>
    intro fu r σ c h1 h2 h3 x hr t f
    cases fu with
    | zero => omega
    | succ fu =>
      have hge := sk_ge T N (r 0 0)
      have hle := sk_le (T := T) hr.1.1
      rw [fX8_read_25_s]
      unfold fX8_read_25b rdl
      generalize hp : sk T N (r 0 0) = p at hge hle t ⊢
      rw [t.1.1, t.2.1, t.2.2.1, if_pos (show nI 0 = 0 from rfl)]
      by_cases q : p < N
      · have hrA : Rb N (atA r p) := ⟨⟨Nat.le_of_lt q, hr.1.2⟩, hr.2⟩
        have hA : DrC (atA r p) d σ := x
        rw [if_neg (show ¬ (240 : Int32) ≤ nI c by rw [li240, le_nI (by omega) (by omega)]; omega), if_neg (show ¬ nI N ≤ nI p by rw [le_nI (by omega) (by omega)]; omega), if_pos q]
        obtain ⟨τ, e, ok⟩ := cC hN hT hd hA hrA t q f
        have hb := clC_b (T := T) q hrA
        rw [e, bv_some]
        generalize clC T N (atA r p) p = Z at ok hb ⊢
        obtain ⟨o1, o2, o3⟩ := ok
        by_cases z : Z.1 = 0
        · obtain ⟨k1, k2⟩ := o2 z
          obtain ⟨k3, k4⟩ := hb.2 z
          rw [if_pos z, cSkip hN hT k2 k3.1.1, bv_some, li1, nI_add, lt_eq]
          exact ih fu Z.2.2 _ (c + 1) (by omega) (by omega) (by omega) (k1.to (fun m h1 h2 => st_ne (by omega))) k3 k2.at' (o1.st1 (by omega))
        · obtain ⟨k1, k2⟩ := o3 (by omega)
          rw [if_neg z, cSkipF k1.1 z hb.1, bv_some, lt_eq]
          cases fu with
          | zero => omega
          | succ fu =>
            refine ⟨τ, ?_, o1, hb.1, fun hh => absurd hh z, fun _ => ⟨k1, k2⟩⟩
            rw [fX8_read_25_s]
            unfold fX8_read_25b
            rw [k1.1, if_neg (npos z hb.1).2]
            split
            · rfl
            · split <;> rfl
      · have ok : OkL N d σ0 σ (0, 0, r) := ⟨f, by show 0 ≤ 3; omega, fun _ => ⟨x, hr, t.2.2.1, t.2.2.2⟩, fun c => absurd c (by show ¬ 0 < 0; omega)⟩
        rw [if_neg q, if_pos (show nI N ≤ nI p by rw [le_nI (by omega) (by omega)]; omega)]
        refine ⟨σ, ?_, ok⟩
        split <;> rfl
theorem cClear {d : Nat} (hl : ln (d + 6) = 4) (σ : Sg) : ∃ τ, fX4_clear d σ = some τ ∧ DrC r0A d τ ∧ ∀ n, ¬ (d ≤ n ∧ n < d + 7) → τ n = σ n := by
  unfold fX4_clear
  rw [lt_eq, lt_eq, lt_eq, lt_eq, lt_eq]
  obtain ⟨τ, e, z, y⟩ := cFill hl (by omega) (st (st (st (st (st σ d 0 0) d 1 0) d 2 0) d 3 0) d 4 0)
  rw [e, bv_some]
  have rd : ∀ k, τ d k = st (st (st (st (st σ d 0 0) d 1 0) d 2 0) d 3 0) d 4 0 d k := fun k => by rw [y d (by omega)]
  refine ⟨τ, rfl, ⟨⟨?_, ?_, ?_, ?_, ?_⟩, (fun p hp => by cases hp), (fun v hv => by cases hv), fun v hv => z v hv⟩, fun n hn => ?_⟩
  · rw [rd, st_at, if_neg (by omega), st_at, if_neg (by omega), st_at, if_neg (by omega), st_at, if_neg (by omega), st_at, if_pos rfl]; rfl
  · rw [rd, st_at, if_neg (by omega), st_at, if_neg (by omega), st_at, if_neg (by omega), st_at, if_pos rfl]; rfl
  · rw [rd, st_at, if_neg (by omega), st_at, if_neg (by omega), st_at, if_pos rfl]; rfl
  · rw [rd, st_at, if_neg (by omega), st_at, if_pos rfl]; rfl
  · rw [rd, st_at, if_pos rfl]; rfl
  · rw [y n (by omega), st_ne (by omega), st_ne (by omega), st_ne (by omega), st_ne (by omega), st_ne (by omega)]
/-- the class's cells behind the whole reading -/
def OkT (N d : Nat) (σ0 τ : Sg) (z : Nat × Nat × Ab) : Prop := (∀ n, n ≠ 1 → ¬ (d ≤ n ∧ n < d + 7) → τ n = σ0 n) ∧ τ 1 1 = nI 0 ∧ z.1 ≤ 3 ∧ (z.1 = 0 → (Rb N z.2.2 ∧ τ 1 2 = nI 0 ∧ τ 1 3 = fI 0) ∧ (τ d 0 = nI (if z.2.2 0 1 = 0 then 0 else 1) ∧ τ d 1 = nI (z.2.2 0 1) ∧ τ d 2 = nI (z.2.2 0 2) ∧ τ d 3 = nI (z.2.2 0 3) ∧ τ d 4 = nI (z.2.2 0 4)) ∧
  (∀ p, p < z.2.2 0 4 → τ (d + 1) p = nI (z.2.2 2 p) ∧ τ (d + 2) p = nI (z.2.2 3 p) ∧ τ (d + 3) p = nI (z.2.2 4 p) ∧ τ (d + 4) p = fI (if z.2.2 5 p < z.2.2 0 4 then z.2.2 5 p + 1 else 0)) ∧
  (∀ v, v < z.2.2 0 3 → τ (d + 5) v = nI (z.2.2 1 v)) ∧ ∀ v, v < 4 → τ (d + 6) v = nI (ofV (z.2.2 0 4) (z.2.2 3) v)) ∧ (0 < z.1 → FtK z.1 z.2.1 τ)
theorem cText {T : Nat → Nat} {N d : Nat} (hN : N ≤ 240) (hT : ∀ k, k < N → T k ≤ 255) (hd : 3 ≤ d) (hl : ln (d + 6) = 4) {σ : Sg} (e1 : σ 1 1 = nI N) (e2 : ∀ k, k < N → σ 2 k = nI (T k)) : ∃ τ, fX8_read d σ = some τ ∧ OkT N d σ τ (rdl T N 241 r0A) := by
  unfold fX8_read
  obtain ⟨τ1, c1, c2, c3⟩ := cClear hl σ
  rw [c1, bv_some, lt_eq, lt_eq, lt_eq]
  generalize hS : st (st (st τ1 1 2 0) 1 3 (-1)) 1 4 0 = S
  have so : ∀ k, k ≠ 2 → k ≠ 3 → k ≠ 4 → S 1 k = τ1 1 k := fun k h2 h3 h4 => by rw [← hS, st_at, if_neg h4, st_at, if_neg h3, st_at, if_neg h2]
  have sn : ∀ n, n ≠ 1 → S n = τ1 n := fun n hn => by rw [← hS, st_ne hn, st_ne hn, st_ne hn]
  have t : TxK T N 0 S := by
    refine ⟨⟨?_, fun k hk => ?_⟩, ?_, ?_, ?_⟩
    · rw [so 1 (by omega) (by omega) (by omega), c3 1 (by omega)]; exact e1
    · rw [sn 2 (by omega), c3 2 (by omega)]; exact e2 k hk
    · rw [← hS, st_at, if_pos rfl]; rfl
    · rw [← hS, st_at, if_neg (by omega), st_at, if_neg (by omega), st_at, if_pos rfl]; rfl
    · rw [← hS, st_at, if_neg (by omega), st_at, if_pos rfl]; exact fI_0.symm
  have x : DrC r0A d S := c2.to (fun m h1 h2 => sn m (by omega))
  have f : FmK d σ S := ⟨fun n h1 h2 => by rw [sn n h1, c3 n h2], by rw [so 1 (by omega) (by omega) (by omega), c3 1 (by omega)]⟩
  have rb : Rb N r0A := ⟨⟨Nat.zero_le _, Nat.zero_le _, Nat.zero_le _, Nat.zero_le _, Nat.zero_le _, fun _ => ⟨rfl, rfl⟩⟩, (fun v hv => by cases hv), (fun p hp => by cases hp)⟩
  rw [cSkip hN hT t (by omega), bv_some]
  obtain ⟨τ, e, ok⟩ := cRead hN hT hd (σ0 := σ) (fun σ_12 => fX8_read_65 d σ_12) 241 FU r0A (st S 1 4 (nI (sk T N 0))) 0 (by show N < 0 + 241; omega) (by have := FU_ge; omega) (Nat.zero_le _) (x.to (fun m h1 h2 => st_ne (by omega))) rb t.at' (f.st1 (by omega))
  rw [show (0 : Int32) = nI 0 from rfl, e]
  generalize rdl T N 241 r0A = Z at ok ⊢
  obtain ⟨o1, o2, o3, o4⟩ := ok
  have hk : ∃ k, k ≤ 7 ∧ τ d 4 = nI k := by
    by_cases z : Z.1 = 0
    · exact ⟨Z.2.2 0 4, (o3 z).2.1.1.2.2.2.2.1, (o3 z).1.1.2.2.2.2⟩
    · exact (o4 (by omega)).2
  obtain ⟨k, k7, ek⟩ := hk
  obtain ⟨υ, s1, s2, s3⟩ := cSettle k7 ek
  unfold fX8_read_65
  rw [s1, bv_some, lt_eq]
  have wn : ∀ n, n ≠ 1 → st υ 1 1 0 n = υ n := fun n hn => st_ne hn
  have w1 : ∀ j, j ≠ 1 → st υ 1 1 0 1 j = τ 1 j := fun j hj => by rw [st_at, if_neg hj, s2 1 (by omega)]
  refine ⟨_, rfl, fun n h1 h2 => ?_, ?_, o2, fun z => ?_, fun z => ?_⟩
  · rw [wn n h1, s2 n (by omega)]; exact o1.1 n h1 h2
  · rw [st_at, if_pos rfl]; rfl
  · obtain ⟨⟨y1, y2, y3, y4⟩, y5, y6, y7⟩ := o3 z
    have hkk : k = Z.2.2 0 4 := by
      have h := ek.symm.trans y1.2.2.2.2
      have hz := y5.1.2.2.2.2.1
      rwa [eq_nI (by omega) (by omega)] at h
    subst hkk
    refine ⟨⟨y5, ?_, ?_⟩, ?_, fun p hp => ?_, fun v hv => ?_, fun v hv => ?_⟩
    · rw [w1 2 (by omega)]; exact y6
    · rw [w1 3 (by omega)]; exact y7
    · rw [wn d (by omega), s2 d (by omega)]; exact y1
    · rw [wn (d + 1) (by omega), wn (d + 2) (by omega), wn (d + 3) (by omega), wn (d + 4) (by omega), s2 (d + 1) (by omega), s2 (d + 2) (by omega), s2 (d + 3) (by omega), s3 p hp]
      obtain ⟨z1, z2, z3, z4⟩ := y2 p hp
      refine ⟨z1, z2, z3, ?_⟩
      have h9 := (y5.2.2 p hp).2.2.2
      rw [z4]
      by_cases w : Z.2.2 5 p < Z.2.2 0 4
      · rw [if_pos (show nI (Z.2.2 5 p) < nI (Z.2.2 0 4) by rw [lt_nI (by omega) (by omega)]; exact w), if_pos w, fI_s]
      · rw [if_neg (show ¬ nI (Z.2.2 5 p) < nI (Z.2.2 0 4) by rw [lt_nI (by omega) (by omega)]; exact w), if_neg w]; exact fI_0.symm
    · rw [wn (d + 5) (by omega), s2 (d + 5) (by omega)]; exact y3 v hv
    · rw [wn (d + 6) (by omega), s2 (d + 6) (by omega)]; exact y4 v hv
  · have := (o4 z).1
    exact ⟨by rw [w1 2 (by omega)]; exact this.1, by rw [w1 3 (by omega)]; exact this.2⟩
