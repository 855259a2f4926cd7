/-! the bounds stay -/
theorem clO_pl {T : Nat → Nat} {N i : Nat} (hi : i ≤ N) (r : Ab) : (clO T N r i).2.1 ≤ N := by
  have a1 := num_at (T := T) (lo := 1) (hs := 21) hi
  have a2 := num_at (T := T) (lo := 1) (hs := 10) a1.2.1
  unfold clO
  split
  · split
    · exact Nat.zero_le _
    · exact a2.2.2
  · exact a1.2.2
theorem clV_pl {T : Nat → Nat} {N i : Nat} (hi : i ≤ N) (r : Ab) : (clV T N r i).2.1 ≤ N := by
  have a1 := num_at (T := T) (lo := 0) (hs := 100) hi
  unfold clV
  split
  · exact Nat.zero_le _
  · exact a1.2.2
theorem clP_pl {T : Nat → Nat} {N i : Nat} (hi : i ≤ N) (r : Ab) : (clP T N r i).2.1 ≤ N := by
  have a1 := num_at (T := T) (lo := 0) (hs := 4) hi
  have a2 := num_at (T := T) (lo := 0) (hs := r 0 3) a1.2.1
  have a3 := num_at (T := T) (lo := 1) (hs := 10) a2.2.1
  have a4 := num_at (T := T) (lo := 0) (hs := 10) a3.2.1
  unfold clP clP2 clP3 clP4
  split
  · split
    · split
      · split
        · split
          · exact a4.2.2
          · exact Nat.zero_le _
        · exact a4.2.2
      · exact a3.2.2
    · exact a2.2.2
  · exact a1.2.2
theorem clE_pl {T : Nat → Nat} {N : Nat} {z : Nat × Nat × Ab} (h : z.2.1 ≤ N) (h2 : z.1 = 0 → z.2.2 0 0 ≤ N) : (clE T N z).2.1 ≤ N := by
  unfold clE
  by_cases q : z.1 = 0
  · rw [if_pos q]
    split
    · exact Nat.zero_le _
    · exact sk_le (h2 q)
  · rw [if_neg q]; exact h
theorem clC_pl {T : Nat → Nat} {N p : Nat} {r : Ab} (hp : p < N) (hr : Rb N r) : (clC T N r p).2.1 ≤ N := by
  have b := hr.1
  unfold clC
  by_cases q1 : T p = 111
  · rw [if_pos q1]
    by_cases q2 : r 0 1 = 0
    · rw [if_pos q2]; exact clE_pl (clO_pl (by omega) r) (fun c => ((clO_b (by omega) hr (b.2.2.2.2.2 q2)).2 c).1.1.1)
    · rw [if_neg q2]; exact Nat.le_of_lt hp
  rw [if_neg q1]
  by_cases q2 : r 0 1 = 0
  · rw [if_pos q2]; exact Nat.le_of_lt hp
  rw [if_neg q2]
  by_cases q3 : T p = 118
  · rw [if_pos q3]
    by_cases q4 : r 0 3 = 4
    · rw [if_pos q4]; exact Nat.le_of_lt hp
    · rw [if_neg q4]; exact clE_pl (clV_pl (by omega) r) (fun c => ((clV_b (by omega) hr (by omega) q2).2 c).1.1.1)
  rw [if_neg q3]
  by_cases q4 : T p = 112
  · rw [if_pos q4]
    by_cases q5 : r 0 4 = 7
    · rw [if_pos q5]; exact Nat.le_of_lt hp
    · rw [if_neg q5]; exact clE_pl (clP_pl (by omega) r) (fun c => ((clP_b (by omega) hr (by omega) q2).2 c).1.1.1)
  rw [if_neg q4]; exact Nat.le_of_lt hp
theorem rdl_b {T : Nat → Nat} {N : Nat} : ∀ (d : Nat) (r : Ab), Rb N r → (rdl T N d r).2.1 ≤ N ∧ ((rdl T N d r).1 = 0 → Rb N (rdl T N d r).2.2) := by
  intro d
  induction d with
  | zero => intro r hr; exact ⟨Nat.zero_le _, fun _ => hr⟩
  | succ d ih =>
    intro r hr
    unfold rdl
    by_cases q : sk T N (r 0 0) < N
    · have hrA : Rb N (atA r (sk T N (r 0 0))) := ⟨⟨Nat.le_of_lt q, hr.1.2⟩, hr.2⟩
      have hb := clC_b (T := T) q hrA
      have hp := clC_pl (T := T) q hrA
      rw [if_pos q]
      generalize clC T N (atA r (sk T N (r 0 0))) (sk T N (r 0 0)) = Z at hb hp ⊢
      by_cases z : Z.1 = 0
      · rw [if_pos z]; exact ih _ (hb.2 z).1
      · rw [if_neg z]; exact ⟨hp, fun c => absurd c z⟩
    · rw [if_neg q]; exact ⟨Nat.zero_le _, fun _ => hr⟩
section G
variable {a : Ab}
theorem G_feed (g : Gb a) (x : Int32) : Gb (sp_feed a x).2 := by
  have hl := gb_len g
  unfold sp_feed
  by_cases q : isR 256 x
  · rw [if_pos q]
    obtain ⟨n, hn, rfl⟩ := ix_of (by omega) q
    by_cases z : a 5 1 = 240
    · rw [if_pos z]; exact g
    · rw [if_neg z, dn_n (by omega)]
      dsimp only
      obtain ⟨g1, g2, g3, g4, g5, g6, g7, g8, g9⟩ := g
      have e20 : ∀ m, 11 ≤ m → va_up (va_up a 6 (va_up (a 6) (a 5 1) n)) 5 (va_up (a 5) 1 (a 5 1 + 1)) m = a m := fun m h => by rw [va_up_ne _ _ (by omega), va_up_ne _ _ (by omega)]
      refine ⟨g1, g2, g3, ⟨g4.1, by show a 5 1 + 1 ≤ 240; omega, g4.2.2⟩, fun k hk => ?_, fun i hi => ?_, g7, g8, fun i hi => ?_⟩
      · have hk : k < a 5 1 + 1 := hk
        show va_up (a 6) (a 5 1) n k ≤ 255
        unfold va_up
        split
        · omega
        · exact g5 k (by omega)
      · rw [e20 (20 + i) (by omega)]; exact g6 i hi
      · rw [e20 (40 + i) (by omega)]
        have e5 : va_up (va_up a 6 (va_up (a 6) (a 5 1) n)) 5 (va_up (a 5) 1 (a 5 1 + 1)) 5 (6 + i) = a 5 (6 + i) := va_up_ne _ _ (by omega)
        rw [e5]; exact g9 i hi
  · rw [if_neg q]; exact g
theorem gb_remw (g : Gb a) {w : Nat → Nat} (hw : Wb (a 0 1) (a 0 3) (a 0 4) w) : Gb (va_up (remA a) 4 w) := gb_row4 (gb_rem g) (by rw [remA_0]; exact hw)
theorem G_tell (g : Gb a) (x y : Int32) : Gb (sp_tell a x y).2 := by
  have hP := gb_P g
  have hV := gb_V g
  unfold sp_tell
  by_cases q : isR (a 0 4) x
  · rw [if_pos q]
    by_cases z : isR 100 y
    · rw [if_pos z]
      obtain ⟨p, hp, rfl⟩ := ix_of (by omega) q
      obtain ⟨n, hn, rfl⟩ := ix_of (by omega) z
      rw [dn_n (by omega), dn_n (by omega)]
      exact gb_remw g ⟨by unfold telW; rw [va_up_ne _ _ (by omega), va_up_ne _ _ (by omega)]; exact gb_yr g, (gb_w g).tel hP hV hp (by omega)⟩
    · rw [if_neg z]; exact g
  · rw [if_neg q]; exact g
theorem G_answer (g : Gb a) (x y : Int32) : Gb (sp_answer a x y).2 := by
  have hP := gb_P g
  have hV := gb_V g
  unfold sp_answer
  by_cases q : isR (a 0 4) x ∧ isR (a 0 4) y
  · rw [if_pos q]
    obtain ⟨p, hp, rfl⟩ := ix_of (by omega) q.1
    obtain ⟨n, hn, rfl⟩ := ix_of (by omega) q.2
    rw [dn_n (by omega), dn_n (by omega)]
    split
    · refine gb_remw g ⟨?_, (gb_w g).ans hP hV hp hn (brg_le g (wc_fate (gb_w g) hp)).1⟩
      unfold ansW
      rw [va_up_ne _ _ (by omega), va_up_ne _ _ (by omega), va_up_ne _ _ (by omega), va_up_ne _ _ (by omega)]; exact gb_yr g
    · exact g
  · rw [if_neg q]; exact g
theorem G_wit (g : Gb a) (x y : Int32) : Gb (sp_wit a x y).2 := by
  have hP := gb_P g
  have hV := gb_V g
  unfold sp_wit
  by_cases q : isR (a 0 4) x
  · rw [if_pos q]
    by_cases z : isR 10 y ∧ ¬ y = 0
    · rw [if_pos z]
      obtain ⟨p, hp, rfl⟩ := ix_of (by omega) q
      obtain ⟨n, hn, rfl⟩ := ix_of (by omega) z.1
      have h1 : 1 ≤ n := by
        have := z.2
        rw [li0, eq_nI (by omega) (by omega)] at this
        omega
      rw [dn_n (by omega), dn_n (by omega)]
      exact gb_remw g ⟨by rw [va_up_ne _ _ (by omega)]; exact gb_yr g, (gb_w g).wit hP hV hp (by omega)⟩
    · rw [if_neg z]; exact g
  · rw [if_neg q]; exact g
theorem G_bear (g : Gb a) (x y : Int32) : Gb (sp_bear a x y).2 := by
  have hP := gb_P g
  have hV := gb_V g
  unfold sp_bear
  by_cases q : isR (a 0 3) x
  · rw [if_pos q]
    by_cases z : isR 100 y
    · rw [if_pos z]
      obtain ⟨p, hp, rfl⟩ := ix_of (by omega) q
      obtain ⟨n, hn, rfl⟩ := ix_of (by omega) z
      rw [dn_n (by omega), dn_n (by omega)]
      exact gb_remw g ⟨by rw [va_up_ne _ _ (by omega)]; exact gb_yr g, (gb_w g).bear hP hV hp (by omega)⟩
    · rw [if_neg z]; exact g
  · rw [if_neg q]; exact g
theorem gb_years : ∀ (d i : Nat) (b : Ab), Gb b → b 4 1 + d ≤ 9060 → Gb (fo (fun _ b => yrA b) d i b) := by
  intro d
  induction d with
  | zero => intro i b g _; exact g
  | succ d ih =>
    intro i b g h
    exact ih (i + 1) (yrA b) (gb_yrA g (by omega)) (by rw [yrA_1]; omega)
theorem gb_drifts : ∀ (d i : Nat) (b : Ab), Gb b → b 4 1 + d ≤ 9060 → Gb (fo (fun _ b => drA b) d i b) := by
  intro d
  induction d with
  | zero => intro i b g _; exact g
  | succ d ih =>
    intro i b g h
    exact ih (i + 1) (drA b) (gb_drA g (by omega)) (by rw [drA_1 g]; omega)
theorem G_year (g : Gb a) (x : Int32) : Gb (sp_year a x).2 := by
  unfold sp_year
  by_cases q : isR 61 x ∧ ¬ x = 0
  · rw [if_pos q]
    obtain ⟨n, hn, rfl⟩ := ix_of (by omega) q.1
    split
    · exact g
    · split
      · rw [dn_n (by omega)]
        exact gb_years n 0 (remA a) (gb_rem g) (by rw [remA_4]; omega)
      · exact g
  · rw [if_neg q]; exact g
theorem G_drift (g : Gb a) (x : Int32) : Gb (sp_drift a x).2 := by
  unfold sp_drift
  by_cases q : isR 61 x ∧ ¬ x = 0
  · rw [if_pos q]
    obtain ⟨n, hn, rfl⟩ := ix_of (by omega) q.1
    split
    · exact g
    · split
      · rw [dn_n (by omega)]
        exact gb_drifts n 0 (remA a) (gb_rem g) (by rw [remA_4]; omega)
      · exact g
  · rw [if_neg q]; exact g
theorem G_undo (g : Gb a) : Gb (sp_undo a).2 := by
  unfold sp_undo
  split
  · exact g
  · exact gb_und g (by omega)
theorem G_returned (g : Gb a) (x : Int32) : Gb (sp_returned a x).2 := by
  have hr := gb_rets g
  have hV := gb_V g
  unfold sp_returned
  by_cases q : isR 1000 x
  · rw [if_pos q]
    obtain ⟨n, hn, rfl⟩ := ix_of (by omega) q
    split
    · exact g
    · split
      · exact g
      · rw [dn_n (by omega)]
        dsimp only
        have hw := gb_w g
        obtain ⟨g1, g2, g3, g4, g5, g6, g7, g8, g9⟩ := g
        generalize hB : va_up (va_up (va_up a 7 (va_up (a 7) (a 5 4) n)) 8 (fun k => if 4 * a 5 4 ≤ k ∧ k < 4 * a 5 4 + 4 then a 4 (26 + (k - 4 * a 5 4)) else a 8 k)) 5 (va_up (a 5) 4 (a 5 4 + 1)) = b
        have eo : ∀ m, m ≠ 5 → m ≠ 7 → m ≠ 8 → b m = a m := fun m h5 h7 h8 => by rw [← hB, va_up_ne _ _ h5, va_up_ne _ _ h8, va_up_ne _ _ h7]
        have e5 : ∀ k, k ≠ 4 → b 5 k = a 5 k := fun k hk => by
          rw [← hB]
          show va_up (a 5) 4 (a 5 4 + 1) k = _
          rw [va_up_ne _ _ hk]
        have e54 : b 5 4 = a 5 4 + 1 := by rw [← hB]; rfl
        have e7 : b 7 = va_up (a 7) (a 5 4) n := by rw [← hB]; rfl
        have e8 : b 8 = fun k => if 4 * a 5 4 ≤ k ∧ k < 4 * a 5 4 + 4 then a 4 (26 + (k - 4 * a 5 4)) else a 8 k := by rw [← hB]; rfl
        unfold Gb
        rw [eo 0 (by omega) (by omega) (by omega), eo 1 (by omega) (by omega) (by omega), eo 2 (by omega) (by omega) (by omega), eo 3 (by omega) (by omega) (by omega), eo 4 (by omega) (by omega) (by omega), eo 6 (by omega) (by omega) (by omega), eo 9 (by omega) (by omega) (by omega), eo 10 (by omega) (by omega) (by omega), e5 0 (by omega), e5 1 (by omega), e5 2 (by omega), e5 3 (by omega), e5 5 (by omega), e54, e7, e8]
        refine ⟨g1, g2, g3, ⟨g4.1, g4.2.1, g4.2.2.1, g4.2.2.2.1, by omega, g4.2.2.2.2.2⟩, g5, fun i hi => ?_, fun k hk => ⟨?_, fun v hv => ?_⟩, g8, fun i hi => ?_⟩
        · rw [eo (20 + i) (by omega) (by omega) (by omega)]; exact g6 i hi
        · unfold va_up
          split
          · omega
          · exact (g7 k (by omega)).1
        · show (if 4 * a 5 4 ≤ 4 * k + v ∧ 4 * k + v < 4 * a 5 4 + 4 then a 4 (26 + (4 * k + v - 4 * a 5 4)) else a 8 (4 * k + v)) ≤ 99
          split
          · exact wc_bear hw (by omega)
          · exact (g7 k (by omega)).2 v hv
        · rw [eo (40 + i) (by omega) (by omega) (by omega), e5 (6 + i) (by omega)]; exact g9 i hi
  · rw [if_neg q]; exact g
theorem G_write (g : Gb a) (x y : Int32) : Gb (sp_write a x y).2 := by
  have hb := gb_booked g
  have hP := gb_P g
  unfold sp_write
  by_cases q : isR (a 0 4) x
  · rw [if_pos q]
    by_cases z : isR 10000 y
    · rw [if_pos z]
      obtain ⟨p, hp, rfl⟩ := ix_of (by omega) q
      obtain ⟨n, hn, rfl⟩ := ix_of (by omega) z
      split
      · exact g
      · rw [dn_n (by omega), dn_n (by omega)]
        dsimp only
        obtain ⟨g1, g2, g3, g4, g5, g6, g7, g8, g9⟩ := g
        generalize hB : va_up (va_up (va_up a 9 (va_up (a 9) (a 5 5) p)) 10 (va_up (a 10) (a 5 5) n)) 5 (va_up (a 5) 5 (a 5 5 + 1)) = b
        have eo : ∀ m, m ≠ 5 → m ≠ 9 → m ≠ 10 → b m = a m := fun m h5 h7 h8 => by rw [← hB, va_up_ne _ _ h5, va_up_ne _ _ h8, va_up_ne _ _ h7]
        have e5 : ∀ k, k ≠ 5 → b 5 k = a 5 k := fun k hk => by
          rw [← hB]
          show va_up (a 5) 5 (a 5 5 + 1) k = _
          rw [va_up_ne _ _ hk]
        have e55 : b 5 5 = a 5 5 + 1 := by rw [← hB]; rfl
        have e9 : b 9 = va_up (a 9) (a 5 5) p := by rw [← hB]; rfl
        have e10 : b 10 = va_up (a 10) (a 5 5) n := by rw [← hB]; rfl
        unfold Gb
        rw [eo 0 (by omega) (by omega) (by omega), eo 1 (by omega) (by omega) (by omega), eo 2 (by omega) (by omega) (by omega), eo 3 (by omega) (by omega) (by omega), eo 4 (by omega) (by omega) (by omega), eo 6 (by omega) (by omega) (by omega), eo 7 (by omega) (by omega) (by omega), eo 8 (by omega) (by omega) (by omega), e5 0 (by omega), e5 1 (by omega), e5 2 (by omega), e5 3 (by omega), e5 4 (by omega), e55, e9, e10]
        refine ⟨g1, g2, g3, ⟨g4.1, g4.2.1, g4.2.2.1, g4.2.2.2.1, g4.2.2.2.2.1, by omega⟩, g5, fun i hi => ?_, g7, fun k hk => ?_, fun i hi => ?_⟩
        · rw [eo (20 + i) (by omega) (by omega) (by omega)]; exact g6 i hi
        · unfold va_up
          by_cases c : k = a 5 5
          · rw [if_pos c, if_pos c]; omega
          · rw [if_neg c, if_neg c]; exact g8 k (by omega)
        · rw [eo (40 + i) (by omega) (by omega) (by omega), e5 (6 + i) (by omega)]; exact g9 i hi
    · rw [if_neg z]; exact g
  · rw [if_neg q]; exact g
/-- only row 5 changes, and what it counts does not grow, but for the seed and the fault's place -/
theorem gb_row5 (g : Gb a) {f : Nat → Nat} (h0 : f 0 < 2147483648) (h1 : f 1 ≤ a 5 1) (h2 : f 2 ≤ 300) (h3 : f 3 ≤ a 5 3) (h4 : f 4 ≤ a 5 4) (h5 : f 5 ≤ a 5 5) (h6 : ∀ i, i < 2 → f (6 + i) = a 5 (6 + i)) : Gb (va_up a 5 f) := by
  obtain ⟨g1, g2, g3, g4, g5, g6, g7, g8, g9⟩ := g
  have eo : ∀ m, m ≠ 5 → va_up a 5 f m = a m := fun m h => va_up_ne _ _ h
  refine ⟨g1, g2, g3, ⟨h0, Nat.le_trans h1 g4.2.1, h2, Nat.le_trans h3 g4.2.2.2.1, Nat.le_trans h4 g4.2.2.2.2.1, Nat.le_trans h5 g4.2.2.2.2.2⟩, fun k hk => g5 k (Nat.lt_of_lt_of_le hk h1), fun i hi => ?_, fun k hk => g7 k (Nat.lt_of_lt_of_le hk h4), fun k hk => g8 k (Nat.lt_of_lt_of_le hk h5), fun i hi => ?_⟩
  · rw [eo (20 + i) (by omega)]; exact g6 i (Nat.lt_of_lt_of_le hi h3)
  · rw [eo (40 + i) (by omega)]
    have e5 : va_up a 5 f 5 (6 + i) = a 5 (6 + i) := h6 i hi
    rw [e5]; exact g9 i hi
theorem G_tear (g : Gb a) : Gb (sp_tear a).2 := by
  unfold sp_tear
  refine gb_row5 g g.2.2.2.1.1 (Nat.le_refl _) g.2.2.2.1.2.2.1 (Nat.le_refl _) (Nat.zero_le _) (Nat.zero_le _) (fun i hi => ?_)
  rw [va_up_ne _ _ (by omega), va_up_ne _ _ (by omega)]
theorem G_seed (g : Gb a) (x : Int32) : Gb (sp_seed a x).2 := by
  unfold sp_seed
  split
  · refine gb_row5 g ?_ (Nat.le_refl _) g.2.2.2.1.2.2.1 (Nat.le_refl _) (Nat.le_refl _) (Nat.le_refl _) (fun i hi => ?_)
    · exact Int32.toNatClampNeg_lt x
    · rw [va_up_ne _ _ (by omega)]
  · exact g
theorem G_keep (g : Gb a) (x : Int32) : Gb (sp_keep a x).2 := by
  unfold sp_keep
  by_cases q : isR 2 x
  · rw [if_pos q]
    obtain ⟨n, hn, rfl⟩ := ix_of (by omega) q
    rw [dn_n (by omega)]
    dsimp only
    have hw := gb_w g
    have hy := gb_yr g
    obtain ⟨g1, g2, g3, g4, g5, g6, g7, g8, g9⟩ := g
    generalize hB : va_up (va_up a (40 + n) (va_up (a 4) 30 (a 5 0))) 5 (va_up (va_up (a 5) (6 + n) 1) 3 0) = b
    have eo : ∀ m, m ≠ 5 → m ≠ 40 + n → b m = a m := fun m h5 h7 => by rw [← hB, va_up_ne _ _ h5, va_up_ne _ _ h7]
    have e5 : ∀ k, k ≠ 3 → k ≠ 6 + n → b 5 k = a 5 k := fun k hk h6 => by
      rw [← hB]
      show va_up (va_up (a 5) (6 + n) 1) 3 0 k = _
      rw [va_up_ne _ _ hk, va_up_ne _ _ h6]
    have e53 : b 5 3 = 0 := by rw [← hB]; rfl
    have e56 : b 5 (6 + n) = 1 := by
      rw [← hB]
      show va_up (va_up (a 5) (6 + n) 1) 3 0 (6 + n) = _
      rw [va_up_ne _ _ (by omega), va_up_self]
    have e40 : b (40 + n) = va_up (a 4) 30 (a 5 0) := by rw [← hB, va_up_ne _ _ (by omega), va_up_self]
    unfold Gb
    rw [eo 0 (by omega) (by omega), eo 1 (by omega) (by omega), eo 2 (by omega) (by omega), eo 3 (by omega) (by omega), eo 4 (by omega) (by omega), eo 6 (by omega) (by omega), eo 7 (by omega) (by omega), eo 8 (by omega) (by omega), eo 9 (by omega) (by omega), eo 10 (by omega) (by omega), e5 0 (by omega) (by omega), e5 1 (by omega) (by omega), e5 2 (by omega) (by omega), e5 4 (by omega) (by omega), e5 5 (by omega) (by omega), e53]
    refine ⟨g1, g2, g3, ⟨g4.1, g4.2.1, g4.2.2.1, by omega, g4.2.2.2.2.1, g4.2.2.2.2.2⟩, g5, fun i hi => by omega, g7, g8, fun i hi => ?_⟩
    by_cases c : i = n
    · subst c
      rw [e56, e40]
      have ek : ∀ k, k ≠ 30 → va_up (a 4) 30 (a 5 0) k = a 4 k := fun k hk => va_up_ne _ _ hk
      have hV := g1.2.1
      have hP := g1.1
      refine ⟨by omega, fun _ => ⟨⟨by rw [ek _ (by omega)]; exact hy, ⟨?_, fun p hp => ?_, fun v hv => ?_⟩⟩, by rw [va_up_self]; exact g4.1⟩⟩
      · rw [ek 0 (by omega), ek 2 (by omega), ek 3 (by omega), ek 4 (by omega)]; exact hw.1
      · rw [ek _ (by omega), ek _ (by omega), ek _ (by omega)]; exact hw.2.1 p hp
      · rw [ek _ (by omega)]; exact hw.2.2 v hv
    · rw [eo (40 + i) (by omega) (by omega), e5 (6 + i) (by omega) (by omega)]; exact g9 i hi
  · rw [if_neg q]; exact g
theorem G_goBack (g : Gb a) (x : Int32) : Gb (sp_goBack a x).2 := by
  unfold sp_goBack
  by_cases q : isR 2 x
  · rw [if_pos q]
    obtain ⟨n, hn, rfl⟩ := ix_of (by omega) q
    rw [dn_n (by omega)]
    have h9 := g.2.2.2.2.2.2.2.2 n hn
    by_cases z : a 5 (6 + n) = 0
    · rw [if_pos z]; exact g
    · rw [if_neg z]
      obtain ⟨k1, k2⟩ := h9.2 (by omega)
      have g' := gb_row4 g k1
      refine gb_row5 g' k2 (Nat.le_refl _) g.2.2.2.1.2.2.1 (Nat.zero_le _) (Nat.le_refl _) (Nat.le_refl _) (fun i hi => ?_)
      show va_up (va_up (a 5) 0 (a (40 + n) 30)) 3 0 (6 + i) = a 5 (6 + i)
      rw [va_up_ne _ _ (by omega), va_up_ne _ _ (by omega)]
  · rw [if_neg q]; exact g
theorem r0A_b (N : Nat) : Rb N r0A := ⟨⟨Nat.zero_le _, Nat.zero_le _, Nat.zero_le _, Nat.zero_le _, Nat.zero_le _, fun _ => ⟨rfl, rfl⟩⟩, (fun v hv => by cases hv), (fun p hp => by cases hp)⟩
theorem gb_new (g : Gb a) {N : Nat} {r : Ab} (hr : Rb N r) : Gb (newA a r) := by
  obtain ⟨⟨w1, w2, w3, w4, w5, w6⟩, wv, wp⟩ := hr
  have p2 : 0 < 2 ^ r 0 4 := Nat.two_pow_pos _
  refine ⟨⟨w5, w4, w2, w3, fun c => ⟨(w6 c).2, (w6 c).1⟩⟩, fun p hp => ?_, ⟨Nat.zero_le _, ⟨w2, fun c => c, fun c => c, Nat.zero_le _, p2, p2⟩, fun p hp => ?_, fun v hv => ?_⟩, ⟨g.2.2.2.1.1, Nat.zero_le _, Nat.zero_le _, Nat.zero_le _, Nat.zero_le _, Nat.zero_le _⟩, (fun k hk => by cases hk), (fun i hi => by cases hi), (fun k hk => by cases hk), (fun k hk => by cases hk), fun i hi => ?_⟩
  · have hp : p < r 0 4 := hp
    refine ⟨(wp p hp).1, (wp p hp).2.1, ?_⟩
    show (if r 5 p < r 0 4 then r 5 p + 1 else 0) ≤ r 0 4
    split <;> omega
  · have hp : p < r 0 4 := hp
    have h4 := (wp p hp).2.2.1
    show (1 ≤ w0 r (5 + p) ∧ w0 r (5 + p) ≤ 9) ∧ w0 r (12 + p) ≤ 99 ∧ w0 r (19 + p) ≤ 9999
    have e1 : w0 r (5 + p) = r 4 p := by
      unfold w0
      rw [if_neg (by omega), if_pos (by omega), Nat.add_sub_cancel_left]
    have e2 : w0 r (12 + p) = 0 := by
      unfold w0
      rw [if_neg (by omega), if_neg (by omega), if_neg (by omega)]
    have e3 : w0 r (19 + p) = 0 := by
      unfold w0
      rw [if_neg (by omega), if_neg (by omega), if_neg (by omega)]
    rw [e1, e2, e3]
    omega
  · have hv : v < r 0 3 := hv
    show w0 r (26 + v) ≤ 99
    unfold w0
    rw [if_neg (by omega), if_neg (by omega), if_pos (by omega), Nat.add_sub_cancel_left]
    exact wv v hv
  · have e5 : newA a r 5 (6 + i) = 0 := by
      show (if 6 + i = 0 then a 5 0 else 0) = 0
      rw [if_neg (by omega)]
    rw [e5]
    exact ⟨by omega, fun c => by omega⟩
theorem G_hills (g : Gb a) : Gb (sp_hills a).2 := by
  have hl := gb_len g
  have hb := rdl_b (T := a 6) (N := a 5 1) 241 r0A (r0A_b _)
  unfold sp_hills
  generalize rdl (a 6) (a 5 1) 241 r0A = Z at hb ⊢
  by_cases q : Z.1 = 0
  · rw [if_pos q]; exact gb_new g (hb.2 q)
  · rw [if_neg q]
    refine gb_row5 g g.2.2.2.1.1 (Nat.zero_le _) ?_ (Nat.le_refl _) (Nat.le_refl _) (Nat.le_refl _) (fun i hi => ?_)
    · show Z.2.1 + 1 ≤ 300
      omega
    · rw [va_up_ne _ _ (by omega), va_up_ne _ _ (by omega)]
end G
