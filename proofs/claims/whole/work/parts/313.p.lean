/-! the class: reading -/
theorem cFill {n N : Nat} (hN : ln n = N) (h7 : N ≤ 100) (σ : Sg) : ∃ τ, fJ7_fill_53178 n σ 0 = some τ ∧ (∀ k, k < N → τ n k = nI 0) ∧ ∀ m, m ≠ n → τ m = σ m := by
  unfold fJ7_fill_53178
  rw [hN, lt_eq]
  have := loopE (fun m i (t : Sg) => fJ7_fill_53178_5 n m (fun σ_5 => some σ_5) t 0 (nI i) (nI N)) N (fun i t => (∀ k, k < i → t n k = nI 0) ∧ ∀ m, m ≠ n → t m = σ m) (fun t => some t) (by
    intro m t _
    show fJ7_fill_53178_5 n (m + 1) _ t 0 (nI N) (nI N) = _
    rw [fJ7_fill_53178_5_s]
    unfold fJ7_fill_53178_5b
    rw [if_pos (Int32.le_refl _)]) (by
    intro m i t hi ⟨z, f⟩
    show ∃ t', fJ7_fill_53178_5 n (m + 1) _ t 0 (nI i) (nI N) = fJ7_fill_53178_5 n m _ t' 0 (nI (i + 1)) (nI N) ∧ _
    rw [fJ7_fill_53178_5_s]
    unfold fJ7_fill_53178_5b
    have ec : (nI i).toNatClampNeg = i := cl_nI (by omega)
    rw [if_neg (show ¬ nI N ≤ nI i by rw [le_nI (by omega) (by omega)]; omega), hN, if_pos (inb_nI hi (by omega)), ec, lt_eq, li1, nI_add, lt_eq]
    refine ⟨_, rfl, fun k hk => ?_, fun m hm => by rw [st_ne hm]; exact f m hm⟩
    rw [st_at]
    by_cases c : k = i
    · rw [if_pos c]; rfl
    · rw [if_neg c]; exact z k (by omega)) N 0 FU σ (by omega) (by have := FU_ge; omega) ⟨fun k hk => by omega, fun m _ => rfl⟩
  obtain ⟨τ, e, z, f⟩ := this
  exact ⟨τ, e, z, f⟩
theorem cSettle {d k : Nat} {σ : Sg} (hk : k ≤ 7) (e4 : σ d 4 = nI k) : ∃ τ, fX4_settleFrom d σ = some τ ∧ (∀ n, n ≠ d + 4 → τ n = σ n) ∧ ∀ p, p < k → τ (d + 4) p = if σ (d + 4) p < nI k then σ (d + 4) p else -1 := by
  unfold fX4_settleFrom
  have := loopE (fun m i (t : Sg) => fX4_settleFrom_2 d m (fun σ_6 => some σ_6) t (nI i)) k (fun i t => (∀ n, n ≠ d + 4 → t n = σ n) ∧ (∀ p, p < i → t (d + 4) p = if σ (d + 4) p < nI k then σ (d + 4) p else -1) ∧ ∀ p, i ≤ p → t (d + 4) p = σ (d + 4) p) (fun t => some t) (by
    intro m t ⟨f, _, _⟩
    show fX4_settleFrom_2 d (m + 1) _ t (nI k) = _
    rw [fX4_settleFrom_2_s]
    unfold fX4_settleFrom_2b
    rw [f d (by omega), e4, if_pos (Int32.le_refl _)]) (by
    intro m i t hi ⟨f, z, y⟩
    show ∃ t', fX4_settleFrom_2 d (m + 1) _ t (nI i) = fX4_settleFrom_2 d m _ t' (nI (i + 1)) ∧ _
    rw [fX4_settleFrom_2_s]
    unfold fX4_settleFrom_2b fX4_settleFrom_30
    have ec : (nI i).toNatClampNeg = i := cl_nI (by omega)
    rw [f d (by omega), e4, if_neg (show ¬ nI k ≤ nI i by rw [le_nI (by omega) (by omega)]; omega), if_pos (inb_nI (show i < 7 by omega) (by omega)), if_pos (inb_nI (show i < 7 by omega) (by omega)), ec, y i (Nat.le_refl _), li1, nI_add]
    by_cases q : σ (d + 4) i < nI k
    · rw [if_pos q, lt_eq]
      refine ⟨_, rfl, f, fun p hp => ?_, fun p hp => y p (by omega)⟩
      rcases (show p < i ∨ p = i by omega) with c | c
      · exact z p c
      · rw [c, if_pos q]; exact y i (Nat.le_refl _)
    · rw [if_neg q, lt_eq, lt_eq]
      refine ⟨_, rfl, fun n hn => by rw [st_ne hn]; exact f n hn, fun p hp => ?_, fun p hp => ?_⟩
      · rw [st_at]
        by_cases c : p = i
        · rw [if_pos c, c, if_neg q]
        · rw [if_neg c]; exact z p (by omega)
      · rw [st_at, if_neg (by omega)]; exact y p (by omega)) k 0 FU σ (by omega) (by have := FU_ge; omega) ⟨fun n _ => rfl, fun p hp => by omega, fun p _ => rfl⟩
  obtain ⟨τ, e, f, z, _⟩ := this
  exact ⟨τ, e, f, z⟩
/-- the class's text and place, no fault yet -/
def TxK (T : Nat → Nat) (N i : Nat) (σ : Sg) : Prop := (σ 1 1 = nI N ∧ ∀ k, k < N → σ 2 k = nI (T k)) ∧ σ 1 4 = nI i ∧ σ 1 2 = nI 0 ∧ σ 1 3 = fI 0
theorem TxK.at' {T : Nat → Nat} {N i j : Nat} {σ : Sg} (h : TxK T N i σ) : TxK T N j (st σ 1 4 (nI j)) := by
  refine ⟨⟨?_, fun k hk => ?_⟩, ?_, ?_, ?_⟩
  · rw [st_at, if_neg (by omega)]; exact h.1.1
  · rw [st_ne (by omega)]; exact h.1.2 k hk
  · rw [st_at, if_pos rfl]
  · rw [st_at, if_neg (by omega)]; exact h.2.2.1
  · rw [st_at, if_neg (by omega)]; exact h.2.2.2
theorem TxK.to {T : Nat → Nat} {N i : Nat} {σ τ : Sg} (h : TxK T N i σ) (e1 : ∀ k, k ≠ 5 → τ 1 k = σ 1 k) (e2 : τ 2 = σ 2) : TxK T N i τ := by
  refine ⟨⟨?_, fun k hk => ?_⟩, ?_, ?_, ?_⟩
  · rw [e1 1 (by omega)]; exact h.1.1
  · rw [e2]; exact h.1.2 k hk
  · rw [e1 4 (by omega)]; exact h.2.1
  · rw [e1 2 (by omega)]; exact h.2.2.1
  · rw [e1 3 (by omega)]; exact h.2.2.2
theorem cLetter {T : Nat → Nat} {N i : Nat} (hN : N ≤ 240) {σ : Sg} (h : TxK T N i σ) (hi : i < N) : fX8_letter σ = some (nI (T i), σ) := by
  unfold fX8_letter
  have ec : (nI i).toNatClampNeg = i := cl_nI (by omega)
  rw [h.1.1, h.2.1, if_neg (nI_pos (by omega)), if_neg (show ¬ nI N ≤ nI i by rw [le_nI (by omega) (by omega)]; omega), if_neg (show ¬ (240 : Int32) ≤ nI i by rw [li240, le_nI (by omega) (by omega)]; omega), if_pos (inb_nI (show i < 240 by omega) (by omega)), ec, h.1.2 i hi]
theorem cSkip {T : Nat → Nat} {N i : Nat} (hN : N ≤ 240) (hT : ∀ k, k < N → T k ≤ 255) {σ : Sg} (h : TxK T N i σ) (hi : i ≤ N) : fX8_skipBlanks σ = some (st σ 1 4 (nI (sk T N i))) := by
  have key : ∀ (d i fu : Nat) (σ : Sg), i + d = N → d < fu → TxK T N i σ → fX8_skipBlanks_8 fu (fun σ_6 => some σ_6) σ = some (st σ 1 4 (nI (skp T N d i))) := by
    intro d
    induction d with
    | zero =>
      intro i fu σ h1 h2 h
      cases fu with
      | zero => omega
      | succ fu =>
        rw [fX8_skipBlanks_8_s]
        unfold fX8_skipBlanks_8b skp
        rw [h.1.1, h.2.1, if_pos (show nI N ≤ nI i by rw [le_nI (by omega) (by omega)]; omega), st_self h.2.1]
    | succ d ih =>
      intro i fu σ h1 h2 h
      cases fu with
      | zero => omega
      | succ fu =>
        have hi : i < N := by omega
        have ht := hT i hi
        rw [fX8_skipBlanks_8_s]
        unfold fX8_skipBlanks_8b skp
        rw [h.1.1, h.2.1, if_neg (show ¬ nI N ≤ nI i by rw [le_nI (by omega) (by omega)]; omega), cLetter hN h hi, bi_some, h.2.1, li1, nI_add, lt_eq]
        by_cases q : T i = 32
        · rw [if_pos (show nI (T i) = 32 by rw [q]; rfl), if_pos ⟨hi, q⟩, ih (i + 1) fu _ (by omega) (by omega) h.at', st_st]
        · rw [if_neg (show ¬ nI (T i) = 32 by rw [li32, eq_nI (by omega) (by omega)]; exact q), if_neg (fun c => q c.2), st_self h.2.1]
  unfold fX8_skipBlanks
  rw [h.2.2.1, if_pos (show nI 0 = 0 from rfl)]
  exact key (N - i) i FU σ (by omega) (by have := FU_ge; omega) h
theorem cSkipF {σ : Sg} {c : Nat} (h : σ 1 2 = nI c) (hc : ¬ c = 0) (h3 : c ≤ 3) : fX8_skipBlanks σ = some σ := by
  unfold fX8_skipBlanks
  rw [h, if_neg (npos hc h3).2]
theorem cFig (σ : Sg) {t : Nat} (ht : t ≤ 255) : fX8_isFigure σ (nI t) = some (nI (if 48 ≤ t ∧ t ≤ 57 then 1 else 0), σ) := by
  unfold fX8_isFigure fX8_isFigure_16
  by_cases q : t < 48
  · rw [if_pos (show nI t < 48 by rw [li48, lt_nI (by omega) (by omega)]; exact q), if_neg (by omega)]; rfl
  · rw [if_neg (show ¬ nI t < 48 by rw [li48, lt_nI (by omega) (by omega)]; exact q)]
    by_cases z : 57 < t
    · rw [if_pos (show (57 : Int32) < nI t by rw [li57, lt_nI (by omega) (by omega)]; exact z), if_neg (by omega)]; rfl
    · rw [if_neg (show ¬ (57 : Int32) < nI t by rw [li57, lt_nI (by omega) (by omega)]; exact z), if_pos (by omega)]; rfl
def p10 (k : Nat) : Nat := if k = 0 then 1 else if k = 1 then 10 else if k = 2 then 100 else if k = 3 then 1000 else 10000
theorem p10_le (k : Nat) : p10 k ≤ 10000 := by
  unfold p10
  repeat' split
  all_goals omega
theorem p10_s {k : Nat} (hk : k < 4) : 10 * p10 k = p10 (k + 1) := by
  rcases (show k = 0 ∨ k = 1 ∨ k = 2 ∨ k = 3 by omega) with rfl | rfl | rfl | rfl <;> decide
theorem p10_3 {k : Nat} (hk : k < 3) : p10 k ≤ 100 := by
  rcases (show k = 0 ∨ k = 1 ∨ k = 2 by omega) with rfl | rfl | rfl <;> decide
theorem cDgs {T : Nat → Nat} {N n0 : Nat} (hN : N ≤ 240) (hT : ∀ k, k < N → T k ≤ 255) (x1 x2 : Int32) (kx : Sg → Int32 → Int32 → Int32 → Option (Int32 × Sg)) : ∀ (d i v vc fu : Nat) (σ : Sg), i + d = N → d < fu → n0 ≤ i → vc < p10 (i - n0) → (i - n0 ≤ 3 → vc = v) → TxK T N i σ → σ 1 5 = nI n0 → ∃ v', fX8_readNumber_23 fu kx σ x1 x2 (nI vc) = kx (st σ 1 4 (nI (dgs T N d i v).1)) x1 x2 (nI v') ∧ v' ≤ 9999 ∧ ((dgs T N d i v).1 - n0 ≤ 3 → v' = (dgs T N d i v).2) := by
  intro d
  induction d with
  | zero =>
    intro i v vc fu σ h1 h2 h3 h4 h5 h h6
    cases fu with
    | zero => omega
    | succ fu =>
      have := p10_le (i - n0)
      refine ⟨vc, ?_, by omega, h5⟩
      rw [fX8_readNumber_23_s]
      unfold fX8_readNumber_23b dgs
      rw [h.1.1, h.2.1, if_pos (show nI N ≤ nI i by rw [le_nI (by omega) (by omega)]; omega), st_self h.2.1]
  | succ d ih =>
    intro i v vc fu σ h1 h2 h3 h4 h5 h h6
    cases fu with
    | zero => omega
    | succ fu =>
      have hi : i < N := by omega
      have ht := hT i hi
      have hle := p10_le (i - n0)
      rw [fX8_readNumber_23_s]
      unfold fX8_readNumber_23b fX8_readNumber_70
      rw [h.1.1, h.2.1, if_neg (show ¬ nI N ≤ nI i by rw [le_nI (by omega) (by omega)]; omega), cLetter hN h hi, bi_some, cFig σ ht, bi_some, cLetter hN h hi, bi_some, h.2.1, h6, sb_nI h3, li1, nI_add]
      by_cases q : 48 ≤ T i ∧ T i ≤ 57
      · have e0 : dgs T N (d + 1) i v = dgs T N d (i + 1) (if v ≤ 1000 then 10 * v + T i - 48 else v) := by
          show (if i < N ∧ 48 ≤ T i ∧ T i ≤ 57 then dgs T N d (i + 1) (if v ≤ 1000 then 10 * v + T i - 48 else v) else (i, v)) = _
          rw [if_pos ⟨hi, q⟩]
        rw [if_pos q, if_neg (by decide), e0]
        have hge := (dgs_le T N d (i + 1) 0 (by omega)).1
        have hmono : ∀ v, i + 1 ≤ (dgs T N d (i + 1) v).1 := by
          intro v
          clear ih
          have : ∀ d i v, i ≤ (dgs T N d i v).1 := by
            intro d
            induction d with
            | zero => intro i v; exact Nat.le_refl _
            | succ d ih2 =>
              intro i v
              unfold dgs
              split
              · have := ih2 (i + 1) (if v ≤ 1000 then 10 * v + T i - 48 else v); omega
              · exact Nat.le_refl _
          exact this d (i + 1) v
        have s6 : st σ 1 4 (nI (i + 1)) 1 5 = nI n0 := by rw [st_at, if_neg (by omega)]; exact h6
        by_cases z : 4 ≤ i - n0
        · rw [if_pos (show (4 : Int32) ≤ nI (i - n0) by rw [li4, le_nI (by omega) (by omega)]; exact z), lt_eq]
          have hp : p10 (i + 1 - n0) = p10 (i - n0) := by
            unfold p10
            rw [if_neg (by omega), if_neg (by omega), if_neg (by omega), if_neg (by omega), if_neg (by omega), if_neg (by omega), if_neg (by omega), if_neg (by omega)]
          obtain ⟨v', f1, f2, f3⟩ := ih (i + 1) (if v ≤ 1000 then 10 * v + T i - 48 else v) vc fu _ (by omega) (by omega) (by omega) (by rw [hp]; exact h4) (fun c => by omega) h.at' s6
          exact ⟨v', by rw [f1, st_st], f2, f3⟩
        · have hp := p10_s (show i - n0 < 4 by omega)
          rw [show i - n0 + 1 = i + 1 - n0 by omega] at hp
          rw [if_neg (show ¬ (4 : Int32) ≤ nI (i - n0) by rw [li4, le_nI (by omega) (by omega)]; exact z), li10, pk_mul, nI_add, li48, sb_nI (by omega), lt_eq, lt_eq]
          obtain ⟨v', f1, f2, f3⟩ := ih (i + 1) (if v ≤ 1000 then 10 * v + T i - 48 else v) (vc * 10 + T i - 48) fu _ (by omega) (by omega) (by omega) (by omega) (fun c => by
            have e := h5 (by omega)
            have := p10_3 (show i - n0 < 3 by omega)
            rw [if_pos (by omega)]
            omega) h.at' s6
          exact ⟨v', by rw [f1, st_st], f2, f3⟩
      · have e0 : dgs T N (d + 1) i v = (i, v) := by
          show (if i < N ∧ 48 ≤ T i ∧ T i ≤ 57 then dgs T N d (i + 1) (if v ≤ 1000 then 10 * v + T i - 48 else v) else (i, v)) = _
          rw [if_neg (fun c => q c.2)]
        rw [if_neg q, if_pos (by decide), e0, st_self h.2.1]
        exact ⟨vc, rfl, by omega, h5⟩
theorem cFail {σ : Sg} (h : σ 1 2 = nI 0) (x y : Int32) : fX8_fail σ x y = some (st (st σ 1 2 x) 1 3 y) := by
  unfold fX8_fail
  rw [h, if_pos (show nI 0 = 0 from rfl), lt_eq, lt_eq]
/-- a fault is told -/
def FtK (c pl : Nat) (σ : Sg) : Prop := σ 1 2 = nI c ∧ σ 1 3 = nI pl
theorem cNum {T : Nat → Nat} {N i lo hs : Nat} (hN : N ≤ 240) (hT : ∀ k, k < N → T k ≤ 255) {σ : Sg} (h : TxK T N i σ) (hi : i ≤ N) (hlo : lo ≤ 100) (hhs : hs ≤ 100) {x2 : Int32} (hx2 : x2 = nI hs - nI 1) : ∃ v τ, fX8_readNumber σ (nI lo) x2 = some (nI v, τ) ∧ v ≤ 9999 ∧ ((num T N lo hs i).1 = 0 → v = (num T N lo hs i).2.2.2 ∧ TxK T N (num T N lo hs i).2.2.1 τ) ∧ (0 < (num T N lo hs i).1 → FtK (num T N lo hs i).1 (num T N lo hs i).2.1 τ) ∧ τ 1 5 = nI (num T N lo hs i).2.1 ∧ (∀ n, n ≠ 1 → τ n = σ n) ∧ τ 1 1 = σ 1 1 := by
  have hl := sk_le (T := T) hi
  have h2 : TxK T N (sk T N i) (st σ 1 4 (nI (sk T N i))) := h.at'
  unfold fX8_readNumber
  rw [h.2.2.1, if_pos (show nI 0 = 0 from rfl), cSkip hN hT h hi, bv_some, h2.2.1, lt_eq]
  generalize hS : st (st σ 1 4 (nI (sk T N i))) 1 5 (nI (sk T N i)) = S
  have so : ∀ k, k ≠ 4 → k ≠ 5 → S 1 k = σ 1 k := fun k h4 h5 => by rw [← hS, st_at, if_neg h5, st_at, if_neg h4]
  have sn : ∀ n, n ≠ 1 → S n = σ n := fun n hn => by rw [← hS, st_ne hn, st_ne hn]
  have s5 : S 1 5 = nI (sk T N i) := by rw [← hS, st_at, if_pos rfl]
  have hSt : TxK T N (sk T N i) S := h2.to (fun k hk => by rw [← hS, st_at, if_neg hk]) (by rw [← hS, st_ne (by omega)])
  obtain ⟨v', f1, f2, f3⟩ := cDgs hN hT (nI lo) x2 (fun σ_12 x1_12 x2_12 x3_12 => fX8_readNumber_83 σ_12 x1_12 x2_12 x3_12) (N - sk T N i) (sk T N i) 0 0 FU S (by omega) (by have := FU_ge; omega) (Nat.le_refl _) (by rw [Nat.sub_self]; decide) (fun _ => rfl) hSt s5
  rw [show (0 : Int32) = nI 0 from rfl, f1]
  have hd := dgs_le T N (N - sk T N i) (sk T N i) 0 (by omega)
  have hfst : ¬ (sk T N i < N ∧ 48 ≤ T (sk T N i) ∧ T (sk T N i) ≤ 57) → dgs T N (N - sk T N i) (sk T N i) 0 = (sk T N i, 0) := by
    intro c
    cases N - sk T N i with
    | zero => rfl
    | succ d => unfold dgs; rw [if_neg c]
  have hpos : (sk T N i < N ∧ 48 ≤ T (sk T N i) ∧ T (sk T N i) ≤ 57) → sk T N i < (dgs T N (N - sk T N i) (sk T N i) 0).1 := by
    intro c
    rcases (show N - sk T N i = (N - sk T N i - 1) + 1 by omega) with e
    rw [e]
    unfold dgs
    rw [if_pos c]
    have := (dgs_le T N (N - sk T N i - 1) (sk T N i + 1) (if 0 ≤ 1000 then 10 * 0 + T (sk T N i) - 48 else 0) (by rw [if_pos (by omega)]; omega)).1
    omega
  unfold num
  generalize dgs T N (N - sk T N i) (sk T N i) 0 = D at f1 f3 hd hfst hpos ⊢
  obtain ⟨q1, v1⟩ := D
  have hd : sk T N i ≤ q1 ∧ q1 ≤ sk T N i + (N - sk T N i) ∧ v1 ≤ 10009 := hd
  have f3 : q1 - sk T N i ≤ 3 → v' = v1 := f3
  show ∃ v τ, fX8_readNumber_83 (st S 1 4 (nI q1)) (nI lo) x2 (nI v') = _ ∧ _
  generalize hU : st S 1 4 (nI q1) = U
  have u5 : U 1 5 = nI (sk T N i) := by rw [← hU, st_at, if_neg (by omega)]; exact s5
  have u4 : U 1 4 = nI q1 := by rw [← hU, st_at, if_pos rfl]
  have uT : TxK T N q1 U := by rw [← hU]; exact hSt.at'
  have un : ∀ n, n ≠ 1 → U n = σ n := fun n hn => by rw [← hU, st_ne hn, sn n hn]
  have u1 : U 1 1 = σ 1 1 := by rw [← hU, st_at, if_neg (by omega), so 1 (by omega) (by omega)]
  have bad : ∀ c, TxK T N q1 U → FtK c (sk T N i) (st (st U 1 2 (nI c)) 1 3 (nI (sk T N i))) ∧ st (st U 1 2 (nI c)) 1 3 (nI (sk T N i)) 1 5 = nI (sk T N i) ∧ (∀ n, n ≠ 1 → st (st U 1 2 (nI c)) 1 3 (nI (sk T N i)) n = σ n) ∧ st (st U 1 2 (nI c)) 1 3 (nI (sk T N i)) 1 1 = σ 1 1 := by
    intro c _
    refine ⟨⟨?_, ?_⟩, ?_, fun n hn => ?_, ?_⟩
    · rw [st_at, if_neg (by omega), st_at, if_pos rfl]
    · rw [st_at, if_pos rfl]
    · rw [st_at, if_neg (by omega), st_at, if_neg (by omega)]; exact u5
    · rw [st_ne hn, st_ne hn]; exact un n hn
    · rw [st_at, if_neg (by omega), st_at, if_neg (by omega)]; exact u1
  unfold fX8_readNumber_83 fX8_readNumber_127 fX8_readNumber_136
  rw [u4, u5, sb_nI hd.1, lt_eq, cFail uT.2.2.1, cFail uT.2.2.1, bv_some, bv_some]
  by_cases q : sk T N i < N ∧ 48 ≤ T (sk T N i) ∧ T (sk T N i) ≤ 57
  · have hp := hpos q
    have hp : sk T N i < q1 := hp
    rw [if_pos q, if_neg (show ¬ nI (q1 - sk T N i) = 0 by rw [li0, eq_nI (by omega) (by omega)]; omega)]
    by_cases z : 3 < q1 - sk T N i ∨ v1 < lo ∨ hs ≤ v1
    · rw [if_pos z]
      obtain ⟨b1, b2, b3, b4⟩ := bad 2 uT
      refine ⟨v', _, ?_, f2, (fun c => absurd c (by show ¬ 2 = 0; omega)), fun _ => b1, b2, b3, b4⟩
      by_cases w : 3 < q1 - sk T N i
      · rw [if_pos (show (3 : Int32) < nI (q1 - sk T N i) by rw [li3, lt_nI (by omega) (by omega)]; exact w)]; rfl
      · rw [if_neg (show ¬ (3 : Int32) < nI (q1 - sk T N i) by rw [li3, lt_nI (by omega) (by omega)]; exact w)]
        have ev := f3 (by omega)
        by_cases w2 : v' < lo
        · rw [if_pos (show nI v' < nI lo by rw [lt_nI (by omega) (by omega)]; exact w2)]; rfl
        · rw [if_neg (show ¬ nI v' < nI lo by rw [lt_nI (by omega) (by omega)]; exact w2), if_neg (show ¬ nI v' ≤ x2 by
            rw [hx2, Int32.le_iff_toInt_le, nI_toInt (by omega), pk_sub_toInt (by omega) (by omega)]
            omega)]
          rfl
    · rw [if_neg z]
      have ev := f3 (by omega)
      refine ⟨v', U, ?_, f2, fun _ => ⟨ev, uT⟩, (fun c => absurd c (by show ¬ 0 < 0; omega)), u5, un, u1⟩
      rw [if_neg (show ¬ (3 : Int32) < nI (q1 - sk T N i) by rw [li3, lt_nI (by omega) (by omega)]; omega), if_neg (show ¬ nI v' < nI lo by rw [lt_nI (by omega) (by omega)]; omega), if_pos (show nI v' ≤ x2 by
        rw [hx2, Int32.le_iff_toInt_le, nI_toInt (by omega), pk_sub_toInt (by omega) (by omega)]
        omega)]
  · have e := hfst q
    have e1 : q1 = sk T N i := congrArg Prod.fst e
    rw [if_neg q, if_pos (show nI (q1 - sk T N i) = 0 by rw [e1, Nat.sub_self]; rfl)]
    obtain ⟨b1, b2, b3, b4⟩ := bad 1 uT
    exact ⟨v', _, rfl, f2, (fun c => absurd c (by show ¬ 1 = 0; omega)), fun _ => b1, b2, b3, b4⟩
theorem cNumF {σ : Sg} {c : Nat} (h : σ 1 2 = nI c) (hc : ¬ c = 0) (h3 : c ≤ 3) (x y : Int32) : fX8_readNumber σ x y = some (nI 0, σ) := by
  unfold fX8_readNumber
  rw [h, if_neg (npos hc h3).2]
  rfl
