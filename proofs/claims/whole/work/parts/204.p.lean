/-! the reference: sets of persons, years -/
theorem or_nI0 (x : Int32) : x ||| nI 0 = x := Int32.or_zero
theorem upN_at (w : Nat → Nat) (k v : Nat) : va_up w k v k = v := va_up_self w k v
/-- who is of a village -/
def ofV (P : Nat) (home : Nat → Nat) (v : Nat) : Nat := fo (fun p s => if home p = v then ins s p else s) P 0 0
theorem ofV_inv {P : Nat} (hP : P ≤ 7) (home : Nat → Nat) (v : Nat) : ∀ i, i ≤ P → fo (fun p s => if home p = v then ins s p else s) i 0 0 < 128 ∧ ∀ j, j < 7 → bt (fo (fun p s => if home p = v then ins s p else s) i 0 0) j = if j < i ∧ home j = v then 1 else 0 := by
  intro i hi
  have := fo_inv (fun i s => s < 128 ∧ ∀ j, j < 7 → bt s j = if j < i ∧ home j = v then 1 else 0) (f := fun p s => if home p = v then ins s p else s) i 0 0 ⟨by omega, fun j hj => by simp [bt]⟩ (by
    intro j s h1 h2 ⟨h3, h4⟩
    by_cases q : home j = v
    · simp only [if_pos q]
      refine ⟨ins_lt h3 (by omega), fun k hk => ?_⟩
      rw [bt_ins h3 (by omega) hk, h4 k hk]
      by_cases e : k = j
      · rw [if_pos e, if_pos (by rw [e]; exact ⟨by omega, q⟩)]
      · rw [if_neg e]
        by_cases z : k < j ∧ home k = v
        · rw [if_pos z, if_pos ⟨by omega, z.2⟩]
        · rw [if_neg z, if_neg (fun y => z ⟨by omega, y.2⟩)]
    · simp only [if_neg q]
      refine ⟨h3, fun k hk => ?_⟩
      rw [h4 k hk]
      by_cases z : k < j ∧ home k = v
      · rw [if_pos z, if_pos ⟨by omega, z.2⟩]
      · rw [if_neg z, if_neg (fun y => z ⟨by
          rcases Nat.lt_or_ge k j with u | u
          · exact u
          · exfalso
            have : k = j := by omega
            rw [this] at y
            exact q y.2, y.2⟩)])
  rw [Nat.zero_add] at this
  exact this
theorem ofV_lt {P : Nat} (hP : P ≤ 7) (home : Nat → Nat) (v : Nat) : ofV P home v < 128 := (ofV_inv hP home v P (Nat.le_refl _)).1
theorem ofV_bt {P : Nat} (hP : P ≤ 7) (home : Nat → Nat) (v : Nat) {p : Nat} (hp : p < P) : bt (ofV P home v) p = if home p = v then 1 else 0 := by
  have := (ofV_inv hP home v P (Nat.le_refl _)).2 p (by omega)
  unfold ofV
  rw [this]
  by_cases q : home p = v
  · rw [if_pos ⟨hp, q⟩, if_pos q]
  · rw [if_neg (fun y => q y.2), if_neg q]
/-- what of the reference a year reads besides its row -/
def Hm (a : Ab) (σ : Sg) : Prop := σ 132 0 = nI (a 0 1) ∧ σ 132 2 = nI (a 0 3) ∧ σ 132 3 = nI (a 0 4) ∧ ∀ p, p < a 0 4 → σ 134 p = nI (a 2 p)
theorem Hm.of {a : Ab} {σ : Sg} (h : RelM a σ) : Hm a σ := ⟨rm_p0 h, rm_V h, rm_P h, fun p hp => rm_home h hp⟩
theorem mOfV {a : Ab} {σ : Sg} (h : Hm a σ) (g : Gb a) {v : Nat} (hv : v ≤ 4) : fX12_ofVillage σ (nI v) = some (nI (ofV (a 0 4) (a 2) v), σ) := by
  have hP := gb_P g
  unfold fX12_ofVillage
  rw [li0]
  refine (loop0 (fun n i s => fX12_ofVillage_4 n (fun σ_6 x2_6 => some (x2_6, σ_6)) σ (nI v) (nI s) (nI i)) (a 0 4) (by omega) (fun s => some (nI s, σ)) (fun i s => s < 128) (fun p s => if a 2 p = v then ins s p else s) ?_ ?_ ?_ 0 (by omega)).1
  · intro n s hs
    simp only [fX12_ofVillage_4_s]
    unfold fX12_ofVillage_4b
    simp (disch := omega) only [lt_eq, bi_some, bv_some, ↓lim1, pk_m1f, fI_add1, li0, li1, li2, li3, li4, li5, li6, li7, li8, li9, li10, li12, li15, li16, li19, li20, li26, li30, li31, li32, li48, li57, li59, li60, li64, li99, li100, li128, li240, li255, li480, li999, li1000, li9000, li9999, liF, nI_add, sb_nI, pk_mul, dv_nI, cl_nI, inbT, le_nI, lt_nI, eq_nI, fI_le, fI_eq, st_ne, st_at, iT, iF, Nat.zero_add, Nat.add_zero, not_true_eq_false, not_false_eq_true, true_and, and_true, false_and, and_false, or_true, true_or, or_false, false_or, Nat.reduceEqDiff, Nat.reduceLeDiff, Nat.reduceLT, Nat.reduceAdd, Nat.reduceSub, Nat.reduceMul, Nat.reduceDiv, Nat.reduceMod, ↓reduceIte, h.2.2.1, Nat.le_refl]
  · intro n i s hi hs
    simp only [fX12_ofVillage_4_s]
    have hh := gb_home g hi
    have hV := gb_V g
    unfold fX12_ofVillage_4b fX12_ofVillage_30
    simp (disch := omega) only [lt_eq, bi_some, bv_some, ↓lim1, pk_m1f, fI_add1, li0, li1, li2, li3, li4, li5, li6, li7, li8, li9, li10, li12, li15, li16, li19, li20, li26, li30, li31, li32, li48, li57, li59, li60, li64, li99, li100, li128, li240, li255, li480, li999, li1000, li9000, li9999, liF, nI_add, sb_nI, pk_mul, dv_nI, cl_nI, inbT, le_nI, lt_nI, eq_nI, fI_le, fI_eq, st_ne, st_at, iT, iF, Nat.zero_add, Nat.add_zero, not_true_eq_false, not_false_eq_true, true_and, and_true, false_and, and_false, or_true, true_or, or_false, false_or, Nat.reduceEqDiff, Nat.reduceLeDiff, Nat.reduceLT, Nat.reduceAdd, Nat.reduceSub, Nat.reduceMul, Nat.reduceDiv, Nat.reduceMod, ↓reduceIte, h.2.2.1, show ¬ a 0 4 ≤ i by omega, h.2.2.2 i hi]
    by_cases q : a 2 i = v
    · rw [if_pos q, if_pos q, ← li31, ← li1, ins_nI hs (by omega)]
    · rw [if_neg q, if_neg q, or_nI0]
  · intro i s hi hs
    show (if a 2 i = v then ins s i else s) < 128
    by_cases q : a 2 i = v
    · rw [if_pos q]; exact ins_lt hs (by omega)
    · rw [if_neg q]; exact hs
/-- how many -/
def cnt (s : Nat) : Nat := fo (fun k n => n + bt s k) 7 0 0
theorem mOnes (σ : Sg) {s : Nat} (hs : s < 128) : fX12_ones σ (nI s) = some (nI (cnt s), σ) := by
  unfold fX12_ones
  rw [li0]
  refine (loop0 (fun n i c => fX12_ones_4 n (fun σ_4 x1_4 => some (x1_4, σ_4)) σ (nI s) (nI c) (nI i)) 7 (by omega) (fun c => some (nI c, σ)) (fun i c => c ≤ i) (fun k c => c + bt s k) ?_ ?_ ?_ 0 (by omega)).1
  · intro n c hc
    simp only [fX12_ones_4_s]
    unfold fX12_ones_4b
    simp (disch := omega) only [lt_eq, bi_some, bv_some, ↓lim1, pk_m1f, fI_add1, li0, li1, li2, li3, li4, li5, li6, li7, li8, li9, li10, li12, li15, li16, li19, li20, li26, li30, li31, li32, li48, li57, li59, li60, li64, li99, li100, li128, li240, li255, li480, li999, li1000, li9000, li9999, liF, nI_add, sb_nI, pk_mul, dv_nI, cl_nI, inbT, le_nI, lt_nI, eq_nI, fI_le, fI_eq, st_ne, st_at, iT, iF, Nat.zero_add, Nat.add_zero, not_true_eq_false, not_false_eq_true, true_and, and_true, false_and, and_false, or_true, true_or, or_false, false_or, Nat.reduceEqDiff, Nat.reduceLeDiff, Nat.reduceLT, Nat.reduceAdd, Nat.reduceSub, Nat.reduceMul, Nat.reduceDiv, Nat.reduceMod, ↓reduceIte, Nat.le_refl]
  · intro n i c hi hc
    simp only [fX12_ones_4_s]
    unfold fX12_ones_4b
    rw [bt_nI hs hi]
    simp (disch := omega) only [lt_eq, bi_some, bv_some, ↓lim1, pk_m1f, fI_add1, li0, li1, li2, li3, li4, li5, li6, li7, li8, li9, li10, li12, li15, li16, li19, li20, li26, li30, li31, li32, li48, li57, li59, li60, li64, li99, li100, li128, li240, li255, li480, li999, li1000, li9000, li9999, liF, nI_add, sb_nI, pk_mul, dv_nI, cl_nI, inbT, le_nI, lt_nI, eq_nI, fI_le, fI_eq, st_ne, st_at, iT, iF, Nat.zero_add, Nat.add_zero, not_true_eq_false, not_false_eq_true, true_and, and_true, false_and, and_false, or_true, true_or, or_false, false_or, Nat.reduceEqDiff, Nat.reduceLeDiff, Nat.reduceLT, Nat.reduceAdd, Nat.reduceSub, Nat.reduceMul, Nat.reduceDiv, Nat.reduceMod, ↓reduceIte, show ¬ 7 ≤ i by omega]
  · intro i c hi hc
    have := bt_01 s i
    show c + bt s i ≤ i + 1
    omega
/-- a row of numbers at place r of the reference's w -/
def wr (σ : Sg) (r : Nat) (w : Nat → Nat) : Sg := fun n k => if n = 136 ∧ r ≤ k ∧ k < r + 30 then nI (w (k - r)) else σ n k
theorem wr_at (σ : Sg) (r : Nat) (w : Nat → Nat) {k : Nat} (hk : k < 30) : wr σ r w 136 (r + k) = nI (w k) := by
  unfold wr
  rw [if_pos ⟨rfl, by omega, by omega⟩, Nat.add_sub_cancel_left]
theorem wr_ne (σ : Sg) (r : Nat) (w : Nat → Nat) {n : Nat} (hn : n ≠ 136) (k : Nat) : wr σ r w n k = σ n k := by
  unfold wr
  rw [if_neg (fun h => hn h.1)]
theorem wr_st (σ : Sg) (r : Nat) (w : Nat → Nat) {k : Nat} (hk : k < 30) (v : Nat) : st (wr σ r w) 136 (r + k) (nI v) = wr σ r (va_up w k v) := by
  funext m j
  rw [st_eq]
  unfold wr va_up
  by_cases q : m = 136 ∧ j = r + k
  · rw [if_pos q, if_pos ⟨q.1, by omega, by omega⟩, if_pos (by omega)]
  · rw [if_neg q]
    by_cases z : m = 136 ∧ r ≤ j ∧ j < r + 30
    · rw [if_pos z, if_pos z, if_neg (fun y => q ⟨z.1, by omega⟩)]
    · rw [if_neg z, if_neg z]
theorem wr_self {a : Ab} {σ : Sg} (h : RelM a σ) : wr σ 0 (a 4) = σ := by
  funext m j
  unfold wr
  by_cases z : m = 136 ∧ 0 ≤ j ∧ j < 0 + 30
  · rw [if_pos z, z.1, rm_w h (by omega)]; rfl
  · rw [if_neg z]
/-- what a village takes of o -/
def tkn (its told bear o : Nat) : Nat := if its = 0 then 0 else if nI its &&& nI told = nI 0 then (if bear ≤ o then bear else o) else 0
def hrt (w : Nat → Nat) (p by1 : Nat) : Nat → Nat := va_up w (19 + p) (if w (19 + p) + by1 ≤ 9999 then w (19 + p) + by1 else 9999)
