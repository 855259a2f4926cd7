/-! the class: a person's clause -/
theorem fo_end {α : Type} (f : Nat → α → α) : ∀ (d i : Nat) (a : α), fo f (d + 1) i a = f (i + d) (fo f d i a) := by
  intro d
  induction d with
  | zero => intro i a; rfl
  | succ d ih =>
    intro i a
    show fo f (d + 1) (i + 1) (f i a) = f (i + (d + 1)) (fo f d (i + 1) (f i a))
    rw [ih (i + 1) (f i a), show i + 1 + d = i + (d + 1) by omega]
theorem ofV_s (P : Nat) (home : Nat → Nat) (y v : Nat) : ofV (P + 1) (va_up home P y) v = if y = v then ins (ofV P home v) P else ofV P home v := by
  unfold ofV
  rw [fo_end, Nat.zero_add, fo_congr (f := fun p s => if va_up home P y p = v then ins s p else s) (g := fun p s => if home p = v then ins s p else s) P 0 0 (fun j b h1 h2 => by
    show (if va_up home P y j = v then ins b j else b) = _
    unfold va_up
    rw [if_neg (show ¬ j = P by omega)])]
  unfold va_up
  rw [if_pos rfl]
theorem nuS_p {T : Nat → Nat} {N lo hs : Nat} {s : Nat × Nat × Nat} (h : s.1 = 0) : nuS T N lo hs s = ((num T N lo hs s.2.2).1, (num T N lo hs s.2.2).2.1, (num T N lo hs s.2.2).2.2.1) := by
  unfold nuS
  rw [if_pos h]
theorem nuS_q {T : Nat → Nat} {N lo hs : Nat} {s : Nat × Nat × Nat} (h : ¬ s.1 = 0) : nuS T N lo hs s = s := by
  unfold nuS
  rw [if_neg h]
theorem clP_S {T : Nat → Nat} {N i v1 v2 v3 v4 : Nat} {r : Ab} {s1 s2 s3 s4 s5 : Nat × Nat × Nat} (h1 : s1 = nuS T N 0 4 (0, 0, i)) (h2 : s2 = nuS T N 0 (r 0 3) s1) (h3 : s3 = nuS T N 1 10 s2) (h4 : s4 = nuS T N 0 10 s3) (h5 : s5 = if s4.1 = 0 ∧ (v4 = 7 ∨ v4 = 8) then (2, (num T N 0 10 s3.2.2).2.1, 0) else s4)
    (k1 : s1.1 = 0 → v1 = (num T N 0 4 i).2.2.2) (k2 : s2.1 = 0 → v2 = (num T N 0 (r 0 3) s1.2.2).2.2.2) (k3 : s3.1 = 0 → v3 = (num T N 1 10 s2.2.2).2.2.2) (k4 : s4.1 = 0 → v4 = (num T N 0 10 s3.2.2).2.2.2) :
    s5.1 = (clP T N r i).1 ∧ (0 < (clP T N r i).1 → s5.2.1 = (clP T N r i).2.1) ∧ ((clP T N r i).1 = 0 → s5.2.2 = (clP T N r i).2.2 0 0 ∧ (clP T N r i).2.2 = rP r s5.2.2 v1 v2 v3 v4 ∧ v2 < r 0 3) := by
  have e1 : s1 = ((num T N 0 4 i).1, (num T N 0 4 i).2.1, (num T N 0 4 i).2.2.1) := by rw [h1]; rfl
  unfold clP
  by_cases q1 : (num T N 0 4 i).1 = 0
  · have z1 : s1.1 = 0 := by rw [e1]; exact q1
    have y1 : s1.2.2 = (num T N 0 4 i).2.2.1 := by rw [e1]
    have e2 := h2.trans (nuS_p z1)
    rw [if_pos q1, ← y1, ← k1 z1]
    unfold clP2
    by_cases q2 : (num T N 0 (r 0 3) s1.2.2).1 = 0
    · have z2 : s2.1 = 0 := by rw [e2]; exact q2
      have y2 : s2.2.2 = (num T N 0 (r 0 3) s1.2.2).2.2.1 := by rw [e2]
      have e3 := h3.trans (nuS_p z2)
      have o2 := num_ok q2
      rw [if_pos q2, ← y2, ← k2 z2]
      rw [← k2 z2] at o2
      unfold clP3
      by_cases q3 : (num T N 1 10 s2.2.2).1 = 0
      · have z3 : s3.1 = 0 := by rw [e3]; exact q3
        have y3 : s3.2.2 = (num T N 1 10 s2.2.2).2.2.1 := by rw [e3]
        have e4 := h4.trans (nuS_p z3)
        rw [if_pos q3, ← y3, ← k3 z3]
        unfold clP4
        by_cases q4 : (num T N 0 10 s3.2.2).1 = 0
        · have z4 : s4.1 = 0 := by rw [e4]; exact q4
          have y4 : s4.2.2 = (num T N 0 10 s3.2.2).2.2.1 := by rw [e4]
          rw [if_pos q4, ← y4, ← k4 z4]
          by_cases w : v4 = 7 ∨ v4 = 8
          · rw [if_pos w, h5, if_pos ⟨z4, w⟩]
            exact ⟨rfl, fun _ => rfl, fun c => absurd c (by show ¬ 2 = 0; omega)⟩
          · rw [if_neg w, h5, if_neg (fun c => w c.2)]
            exact ⟨z4, fun c => absurd c (by show ¬ 0 < 0; omega), fun _ => ⟨rfl, rfl, o2.2⟩⟩
        · have z4 : ¬ s4.1 = 0 := by rw [e4]; exact q4
          rw [if_neg q4, h5, if_neg (fun c => z4 c.1), e4]
          exact ⟨rfl, fun _ => rfl, fun c => absurd c q4⟩
      · have z3 : ¬ s3.1 = 0 := by rw [e3]; exact q3
        have e4 := h4.trans (nuS_q z3)
        rw [if_neg q3, h5, e4, if_neg (fun c => z3 c.1), e3]
        exact ⟨rfl, fun _ => rfl, fun c => absurd c q3⟩
    · have z2 : ¬ s2.1 = 0 := by rw [e2]; exact q2
      have e3 := h3.trans (nuS_q z2)
      have z3 : ¬ s3.1 = 0 := by rw [e3]; exact z2
      have e4 := h4.trans (nuS_q z3)
      rw [if_neg q2, h5, e4, if_neg (fun c => z3 c.1), e3, e2]
      exact ⟨rfl, fun _ => rfl, fun c => absurd c q2⟩
  · have z1 : ¬ s1.1 = 0 := by rw [e1]; exact q1
    have e2 := h2.trans (nuS_q z1)
    have z2 : ¬ s2.1 = 0 := by rw [e2]; exact z1
    have e3 := h3.trans (nuS_q z2)
    have z3 : ¬ s3.1 = 0 := by rw [e3]; exact z2
    have e4 := h4.trans (nuS_q z3)
    rw [if_neg q1, h5, e4, if_neg (fun c => z3 c.1), e3, e2, e1]
    exact ⟨rfl, fun _ => rfl, fun c => absurd c q1⟩
theorem cAddP {d P V v1 v2 v3 v4 S : Nat} {σ : Sg} (hP : P < 7) (hV : v2 < V) (hV4 : V ≤ 4) (e4 : σ d 4 = nI P) (e3 : σ d 3 = nI V) (eS : σ (d + 6) v2 = nI S) (hS : S < 128) : fX4_addPerson d σ (nI v1) (nI v2) (nI v3) (nI v4) = some (st (st (st (st (st (st σ (d + 1) P (nI v1)) (d + 2) P (nI v2)) (d + 3) P (nI v3)) (d + 4) P (nI v4)) (d + 6) v2 (nI (ins S P))) d 4 (nI (P + 1))) := by
  unfold fX4_addPerson
  have ec : (nI P).toNatClampNeg = P := cl_nI (by omega)
  have ec2 : (nI v2).toNatClampNeg = v2 := cl_nI (by omega)
  have rd : ∀ (τ : Sg) (m k : Nat) (v : Int32), d ≠ m → st τ m k v d = τ d := fun τ m k v h => st_ne h
  have i7 : inb (nI P) 7 := inb_nI hP (by omega)
  have i4 : inb (nI v2) 4 := inb_nI (by omega) (by omega)
  rw [e4, e3, if_neg (show ¬ (7 : Int32) ≤ nI P by rw [li7, le_nI (by omega) (by omega)]; omega), if_neg (show ¬ nI v2 < 0 by rw [li0, lt_nI (by omega) (by omega)]; omega), if_pos (show nI v2 < nI V by rw [lt_nI (by omega) (by omega)]; exact hV), if_pos i7, lt_eq]
  rw [rd _ _ _ _ (by omega), e4, if_pos i7, ec, lt_eq]
  rw [rd _ _ _ _ (by omega), rd _ _ _ _ (by omega), e4, if_pos i7, ec, lt_eq]
  rw [rd _ _ _ _ (by omega), rd _ _ _ _ (by omega), rd _ _ _ _ (by omega), e4, if_pos i7, ec, lt_eq]
  rw [if_pos i4, if_pos i4, ec2, lt_eq]
  rw [rd _ (d + 6) _ _ (by omega), rd _ (d + 4) _ _ (by omega), rd _ (d + 3) _ _ (by omega), rd _ (d + 2) _ _ (by omega), rd _ (d + 1) _ _ (by omega), e4, lt_eq]
  rw [st_ne (show d + 6 ≠ d + 4 by omega), st_ne (show d + 6 ≠ d + 3 by omega), st_ne (show d + 6 ≠ d + 2 by omega), st_ne (show d + 6 ≠ d + 1 by omega), eS, ins_nI hS hP, li1, nI_add]
theorem cP {T : Nat → Nat} {N d i : Nat} (hN : N ≤ 240) (hT : ∀ k, k < N → T k ≤ 255) (hd : 3 ≤ d) {r : Ab} {σ0 σ : Sg} (x : DrC r d σ) (hr : Rb N r) (h0 : r 0 4 < 7) (t : TxK T N i σ) (hi : i ≤ N) (f : FmK d σ0 σ) : ∃ τ, fX8_readPerson d σ = some τ ∧ OkD T N d σ0 τ (clE T N (clP T N r i)) := by
  have n0 : NK T N (0, 0, i) σ := ⟨fun _ => t, fun c => absurd c (by show ¬ 0 < 0; omega)⟩
  have b0 : Sn N (0, 0, i) := ⟨by show 0 ≤ 3; omega, fun _ => hi⟩
  have hV4 := hr.1.2.2.2.1
  obtain ⟨v1, τ1, e1, l1, k1, n1, _, f1, g1⟩ := cNumS (lo := 0) (hs := 4) (x1 := 0) (x2 := 3) hN hT n0 b0 (by omega) (by omega) (by decide) (by decide)
  have b1 := nuS_n (T := T) (lo := 0) (hs := 4) b0
  have ev : τ1 d 3 = nI (r 0 3) := by rw [f1 d (by omega)]; exact x.1.2.2.2.1
  generalize hs1 : nuS T N 0 4 (0, 0, i) = s1 at b1 n1 k1
  obtain ⟨v2, τ2, e2, l2, k2, n2, _, f2, g2⟩ := cNumS (lo := 0) (hs := r 0 3) (x1 := 0) (x2 := nI (r 0 3) - 1) hN hT n1 b1 (by omega) (by omega) (by decide) rfl
  have b2 := nuS_n (T := T) (lo := 0) (hs := r 0 3) b1
  generalize hs2 : nuS T N 0 (r 0 3) s1 = s2 at b2 n2 k2
  obtain ⟨v3, τ3, e3, l3, k3, n3, _, f3, g3⟩ := cNumS (lo := 1) (hs := 10) (x1 := 1) (x2 := 9) hN hT n2 b2 (by omega) (by omega) (by decide) (by decide)
  have b3 := nuS_n (T := T) (lo := 1) (hs := 10) b2
  generalize hs3 : nuS T N 1 10 s2 = s3 at b3 n3 k3
  obtain ⟨v4, τ4, e4, l4, k4, n4, p4, f4, g4⟩ := cNumS (lo := 0) (hs := 10) (x1 := 0) (x2 := 9) hN hT n3 b3 (by omega) (by omega) (by decide) (by decide)
  have b4 := nuS_n (T := T) (lo := 0) (hs := 10) b3
  generalize hs4 : nuS T N 0 10 s3 = s4 at b4 n4 k4
  unfold fX8_readPerson
  rw [e1, bi_some, ev, e2, bi_some, e3, bi_some, e4, bi_some]
  generalize hs5 : (if s4.1 = 0 ∧ (v4 = 7 ∨ v4 = 8) then (2, (num T N 0 10 s3.2.2).2.1, 0) else s4) = s5
  have step : ∃ τ5, (if nI v4 = 7 then fX8_readPerson_51 d τ4 (nI v1) (nI v2) (nI v3) (nI v4) else (if nI v4 = 8 then fX8_readPerson_51 d τ4 (nI v1) (nI v2) (nI v3) (nI v4) else fX8_readPerson_60 d τ4 (nI v1) (nI v2) (nI v3) (nI v4))) = fX8_readPerson_60 d τ5 (nI v1) (nI v2) (nI v3) (nI v4) ∧ NK T N s5 τ5 ∧ Sn N s5 ∧ (∀ n, n ≠ 1 → τ5 n = τ4 n) ∧ τ5 1 1 = τ4 1 1 := by
    by_cases w : v4 = 7 ∨ v4 = 8
    · have ew : (if nI v4 = 7 then fX8_readPerson_51 d τ4 (nI v1) (nI v2) (nI v3) (nI v4) else (if nI v4 = 8 then fX8_readPerson_51 d τ4 (nI v1) (nI v2) (nI v3) (nI v4) else fX8_readPerson_60 d τ4 (nI v1) (nI v2) (nI v3) (nI v4))) = fX8_readPerson_51 d τ4 (nI v1) (nI v2) (nI v3) (nI v4) := by
        rcases w with w | w
        · rw [if_pos (show nI v4 = 7 by rw [w]; rfl)]
        · rw [if_neg (show ¬ nI v4 = 7 by rw [w]; decide), if_pos (show nI v4 = 8 by rw [w]; rfl)]
      rw [ew]
      unfold fX8_readPerson_51
      by_cases q : s4.1 = 0
      · have z3 : s3.1 = 0 := Decidable.byContradiction (fun c => by
          rw [nuS_q c] at hs4
          exact c (hs4 ▸ q))
        rw [p4 z3, cFail (by have := (n4.1 q).2.2.1; exact this), bv_some, ← hs5, if_pos ⟨q, w⟩]
        refine ⟨_, rfl, ⟨fun c => absurd c (by show ¬ 2 = 0; omega), fun _ => ⟨?_, ?_⟩⟩, ⟨by show 2 ≤ 3; omega, fun c => absurd c (by show ¬ 2 = 0; omega)⟩, fun n hn => by rw [st_ne hn, st_ne hn], ?_⟩
        · rw [st_at, if_neg (by omega), st_at, if_pos rfl]; rfl
        · rw [st_at, if_pos rfl]
        · rw [st_at, if_neg (by omega), st_at, if_neg (by omega)]
      · have hf := (n4.2 (by omega)).1
        have efail : ∀ u v, fX8_fail τ4 u v = some τ4 := fun u v => by
          unfold fX8_fail
          rw [hf, if_neg (npos q b4.1).2]
        rw [efail, bv_some, ← hs5, if_neg (fun c => q c.1)]
        exact ⟨τ4, rfl, n4, b4, fun _ _ => rfl, rfl⟩
    · rw [if_neg (show ¬ nI v4 = 7 by rw [li7, eq_nI (by omega) (by omega)]; omega), if_neg (show ¬ nI v4 = 8 by rw [li8, eq_nI (by omega) (by omega)]; omega), ← hs5, if_neg (fun c => w c.2)]
      exact ⟨τ4, rfl, n4, b4, fun _ _ => rfl, rfl⟩
  obtain ⟨τ5, e5, n5, b5, f5, g5⟩ := step
  obtain ⟨τ6, e6, n6, f6, g6⟩ := cEndS hN hT n5 b5
  have hs := clP_S hs1.symm hs2.symm hs3.symm hs4.symm hs5.symm (fun c => (k1 c).1) (fun c => (k2 c).1) (fun c => (k3 c).1) (fun c => (k4 c).1)
  obtain ⟨c0, c1, c2⟩ := hs
  obtain ⟨d1, d2, d3⟩ := clE_S T N (clP T N r i) s5 c0 c1 (fun c => (c2 c).1)
  have fr : ∀ n, n ≠ 1 → τ6 n = σ n := fun n h1 => by rw [f6 n h1, f5 n h1, f4 n h1, f3 n h1, f2 n h1, f1 n h1]
  have g11 : τ6 1 1 = σ 1 1 := by rw [g6, g5, g4, g3, g2, g1]
  have h63 : τ6 d 3 = nI (r 0 3) := by rw [fr d (by omega)]; exact x.1.2.2.2.1
  have h64 : τ6 d 4 = nI (r 0 4) := by rw [fr d (by omega)]; exact x.1.2.2.2.2
  rw [e5]
  unfold fX8_readPerson_60
  rw [e6, bv_some]
  by_cases q : (enS T N s5).1 = 0
  · have tx := n6.1 q
    obtain ⟨z0, z1⟩ := d3 q
    obtain ⟨_, z2, z3⟩ := c2 z0
    have hS : τ6 (d + 6) v2 = nI (ofV (r 0 4) (r 3) v2) := by rw [fr (d + 6) (by omega)]; exact x.2.2.2 v2 (by omega)
    rw [tx.2.2.1, if_pos (show nI 0 = 0 from rfl), cAddP h0 z3 hV4 h64 h63 hS (ofV_lt (by omega) _ _), bv_some]
    refine ⟨_, rfl, ?_⟩
    generalize hU : st (st (st (st (st (st τ6 (d + 1) (r 0 4) (nI v1)) (d + 2) (r 0 4) (nI v2)) (d + 3) (r 0 4) (nI v3)) (d + 4) (r 0 4) (nI v4)) (d + 6) v2 (nI (ins (ofV (r 0 4) (r 3) v2) (r 0 4)))) d 4 (nI (r 0 4 + 1)) = U
    have ur : ∀ n, ¬ (d ≤ n ∧ n < d + 7) → U n = τ6 n := fun n h => by rw [← hU, st_ne (by omega), st_ne (by omega), st_ne (by omega), st_ne (by omega), st_ne (by omega), st_ne (by omega)]
    have ud : ∀ k, k ≠ 4 → U d k = σ d k := fun k h => by rw [← hU, st_at, if_neg h, st_ne (by omega), st_ne (by omega), st_ne (by omega), st_ne (by omega), st_ne (by omega), fr d (by omega)]
    refine ⟨⟨fun n h1 h2 => ?_, ?_⟩, fun c => ?_, fun c => ?_⟩
    · rw [ur n h2, fr n h1]; exact f.1 n h1 h2
    · rw [ur 1 (by omega), g11]; exact f.2
    · rw [z1, z2]
      have tx' : TxK T N (enS T N s5).2.2 U := tx.to (fun k _ => by rw [ur 1 (by omega)]) (ur 2 (by omega))
      refine ⟨⟨⟨?_, ?_, ?_, ?_, ?_⟩, fun p hp => ?_, fun v hv => ?_, fun v hv => ?_⟩, tx'⟩
      · rw [ud 0 (by omega)]; exact x.1.1
      · rw [ud 1 (by omega)]; exact x.1.2.1
      · rw [ud 2 (by omega)]; exact x.1.2.2.1
      · rw [ud 3 (by omega)]; exact x.1.2.2.2.1
      · rw [← hU, st_at, if_pos rfl]; rfl
      · have hp : p < r 0 4 + 1 := hp
        show U (d + 1) p = nI (va_up (r 2) (r 0 4) v1 p) ∧ U (d + 2) p = nI (va_up (r 3) (r 0 4) v2 p) ∧ U (d + 3) p = nI (va_up (r 4) (r 0 4) v3 p) ∧ U (d + 4) p = nI (va_up (r 5) (r 0 4) v4 p)
        have u1 : U (d + 1) p = if p = r 0 4 then nI v1 else σ (d + 1) p := by rw [← hU, st_ne (by omega), st_ne (by omega), st_ne (by omega), st_ne (by omega), st_ne (by omega), st_at, fr (d + 1) (by omega)]
        have u2 : U (d + 2) p = if p = r 0 4 then nI v2 else σ (d + 2) p := by rw [← hU, st_ne (by omega), st_ne (by omega), st_ne (by omega), st_ne (by omega), st_at, st_ne (by omega), fr (d + 2) (by omega)]
        have u3 : U (d + 3) p = if p = r 0 4 then nI v3 else σ (d + 3) p := by rw [← hU, st_ne (by omega), st_ne (by omega), st_ne (by omega), st_at, st_ne (by omega), st_ne (by omega), fr (d + 3) (by omega)]
        have u4 : U (d + 4) p = if p = r 0 4 then nI v4 else σ (d + 4) p := by rw [← hU, st_ne (by omega), st_ne (by omega), st_at, st_ne (by omega), st_ne (by omega), st_ne (by omega), fr (d + 4) (by omega)]
        rw [u1, u2, u3, u4]
        unfold va_up
        by_cases c : p = r 0 4
        · rw [if_pos c, if_pos c, if_pos c, if_pos c, if_pos c, if_pos c, if_pos c, if_pos c]; exact ⟨rfl, rfl, rfl, rfl⟩
        · rw [if_neg c, if_neg c, if_neg c, if_neg c, if_neg c, if_neg c, if_neg c, if_neg c]; exact x.2.1 p (by omega)
      · rw [← hU, st_ne (by omega), st_ne (by omega), st_ne (by omega), st_ne (by omega), st_ne (by omega), st_ne (by omega), fr (d + 5) (by omega)]; exact x.2.2.1 v hv
      · show U (d + 6) v = nI (ofV (r 0 4 + 1) (va_up (r 3) (r 0 4) v2) v)
        rw [ofV_s, ← hU, st_ne (by omega), st_at]
        by_cases c : v = v2
        · rw [if_pos c, if_pos c.symm, c]
        · rw [if_neg c, if_neg (fun h => c h.symm), st_ne (by omega), st_ne (by omega), st_ne (by omega), st_ne (by omega), fr (d + 6) (by omega)]; exact x.2.2.2 v hv
    · rw [d1] at c; omega
  · have hf := n6.2 (by omega)
    rw [hf.1, if_neg (npos q (enS_n b5)).2]
    refine ⟨τ6, rfl, ⟨fun n h1 h2 => ?_, ?_⟩, fun c => absurd (d1 ▸ c) q, fun c => ?_⟩
    · rw [fr n h1]; exact f.1 n h1 h2
    · rw [g11]; exact f.2
    · rw [d1, d2 (by omega)]
      exact ⟨hf, r 0 4, by omega, h64⟩
