/-! PURE ROWS: what both sides hold, as numbers a -/
abbrev Ab : Type := Nat → Nat → Nat
theorem inbT {i N : Nat} (h : i < N) (hN : N ≤ 100000) : inb (nI i) N = True := eq_true (inb_nI h hN)
/-- the reference's cells -/
def RelM (a : Ab) (σ : Sg) : Prop :=
  (σ 132 0 = nI (a 0 1) ∧ σ 132 1 = nI (a 0 2) ∧ σ 132 2 = nI (a 0 3) ∧ σ 132 3 = nI (a 0 4)) ∧
  (∀ p, p < a 0 4 → σ 133 p = nI (a 1 p) ∧ σ 134 p = nI (a 2 p) ∧ σ 135 p = fI (a 3 p)) ∧
  (∀ k, k < 30 → σ 136 k = nI (a 4 k)) ∧
  (σ 132 8 = nI (a 5 0) ∧ σ 132 10 = nI (a 5 1) ∧ σ 132 11 = fI (a 5 2) ∧ σ 132 25 = nI (a 5 3) ∧ σ 132 28 = nI (a 5 4) ∧ σ 132 31 = nI (a 5 5)) ∧
  (∀ k, k < a 5 1 → σ 137 k = nI (a 6 k)) ∧
  (∀ i k, i < a 5 3 → k < 30 → σ 143 (30 * i + k) = nI (a (20 + i) k)) ∧
  (∀ r, r < a 5 4 → σ 145 r = nI (a 7 r) ∧ ∀ v, v < a 0 3 → σ 146 (4 * r + v) = nI (a 8 (4 * r + v))) ∧
  (∀ r, r < a 5 5 → σ 147 r = nI (a 9 r) ∧ σ 148 r = nI (a 10 r)) ∧
  (∀ i, i < 2 → σ 150 i = nI (a 5 (6 + i)) ∧ (a 5 (6 + i) = 1 → ∀ k, k < 31 → σ 149 (31 * i + k) = nI (a (40 + i) k)))
/-- the bounds of a state's numbers: patience, years, owed, who went, who was told; wits, fates, harms; bears -/
def Wc (p0 V P : Nat) (w : Nat → Nat) : Prop :=
  (w 0 ≤ 20 ∧ (p0 = 0 → w 0 = 0) ∧ (0 < p0 → 0 < w 0) ∧ w 2 ≤ 9999 ∧ w 3 < 2 ^ P ∧ w 4 < 2 ^ P) ∧
  (∀ p, p < P → (1 ≤ w (5 + p) ∧ w (5 + p) ≤ 9) ∧ w (12 + p) ≤ 99 ∧ w (19 + p) ≤ 9999) ∧ ∀ v, v < V → w (26 + v) ≤ 99
def Wb (p0 V P : Nat) (w : Nat → Nat) : Prop := w 1 ≤ 9060 ∧ Wc p0 V P w
def Gb (a : Ab) : Prop :=
  (a 0 4 ≤ 7 ∧ a 0 3 ≤ 4 ∧ a 0 1 ≤ 20 ∧ a 0 2 ≤ 9 ∧ (a 0 1 = 0 → a 0 4 = 0 ∧ a 0 3 = 0)) ∧
  (∀ p, p < a 0 4 → a 1 p ≤ 3 ∧ a 2 p < a 0 3 ∧ a 3 p ≤ a 0 4) ∧
  Wb (a 0 1) (a 0 3) (a 0 4) (a 4) ∧
  (a 5 0 < 2147483648 ∧ a 5 1 ≤ 240 ∧ a 5 2 ≤ 300 ∧ a 5 3 ≤ 16 ∧ a 5 4 ≤ 6 ∧ a 5 5 ≤ 15) ∧
  (∀ k, k < a 5 1 → a 6 k ≤ 255) ∧
  (∀ i, i < a 5 3 → Wb (a 0 1) (a 0 3) (a 0 4) (a (20 + i))) ∧
  (∀ r, r < a 5 4 → a 7 r ≤ 999 ∧ ∀ v, v < a 0 3 → a 8 (4 * r + v) ≤ 99) ∧
  (∀ r, r < a 5 5 → a 9 r < a 0 4 ∧ a 10 r ≤ 9999) ∧
  (∀ i, i < 2 → a 5 (6 + i) ≤ 1 ∧ (a 5 (6 + i) = 1 → Wb (a 0 1) (a 0 3) (a 0 4) (a (40 + i)) ∧ a (40 + i) 30 < 2147483648))
section Acc
variable {a : Ab} {σ : Sg}
theorem rm_p0 (h : RelM a σ) : σ 132 0 = nI (a 0 1) := h.1.1
theorem rm_step (h : RelM a σ) : σ 132 1 = nI (a 0 2) := h.1.2.1
theorem rm_V (h : RelM a σ) : σ 132 2 = nI (a 0 3) := h.1.2.2.1
theorem rm_P (h : RelM a σ) : σ 132 3 = nI (a 0 4) := h.1.2.2.2
theorem rm_kind (h : RelM a σ) {p : Nat} (hp : p < a 0 4) : σ 133 p = nI (a 1 p) := (h.2.1 p hp).1
theorem rm_home (h : RelM a σ) {p : Nat} (hp : p < a 0 4) : σ 134 p = nI (a 2 p) := (h.2.1 p hp).2.1
theorem rm_from (h : RelM a σ) {p : Nat} (hp : p < a 0 4) : σ 135 p = fI (a 3 p) := (h.2.1 p hp).2.2
theorem rm_w (h : RelM a σ) {k : Nat} (hk : k < 30) : σ 136 k = nI (a 4 k) := h.2.2.1 k hk
theorem rm_seed (h : RelM a σ) : σ 132 8 = nI (a 5 0) := h.2.2.2.1.1
theorem rm_len (h : RelM a σ) : σ 132 10 = nI (a 5 1) := h.2.2.2.1.2.1
theorem rm_fault (h : RelM a σ) : σ 132 11 = fI (a 5 2) := h.2.2.2.1.2.2.1
theorem rm_undos (h : RelM a σ) : σ 132 25 = nI (a 5 3) := h.2.2.2.1.2.2.2.1
theorem rm_rets (h : RelM a σ) : σ 132 28 = nI (a 5 4) := h.2.2.2.1.2.2.2.2.1
theorem rm_booked (h : RelM a σ) : σ 132 31 = nI (a 5 5) := h.2.2.2.1.2.2.2.2.2
theorem rm_text (h : RelM a σ) {k : Nat} (hk : k < a 5 1) : σ 137 k = nI (a 6 k) := h.2.2.2.2.1 k hk
theorem rm_past (h : RelM a σ) {i k : Nat} (hi : i < a 5 3) (hk : k < 30) : σ 143 (30 * i + k) = nI (a (20 + i) k) := h.2.2.2.2.2.1 i k hi hk
theorem rm_ret (h : RelM a σ) {r : Nat} (hr : r < a 5 4) : σ 145 r = nI (a 7 r) := (h.2.2.2.2.2.2.1 r hr).1
theorem rm_retb (h : RelM a σ) {r v : Nat} (hr : r < a 5 4) (hv : v < a 0 3) : σ 146 (4 * r + v) = nI (a 8 (4 * r + v)) := (h.2.2.2.2.2.2.1 r hr).2 v hv
theorem rm_bookOf (h : RelM a σ) {r : Nat} (hr : r < a 5 5) : σ 147 r = nI (a 9 r) := (h.2.2.2.2.2.2.2.1 r hr).1
theorem rm_bookHarm (h : RelM a σ) {r : Nat} (hr : r < a 5 5) : σ 148 r = nI (a 10 r) := (h.2.2.2.2.2.2.2.1 r hr).2
theorem rm_kept (h : RelM a σ) {i : Nat} (hi : i < 2) : σ 150 i = nI (a 5 (6 + i)) := (h.2.2.2.2.2.2.2.2 i hi).1
theorem rm_image (h : RelM a σ) {i k : Nat} (hi : i < 2) (hk : a 5 (6 + i) = 1) (h3 : k < 31) : σ 149 (31 * i + k) = nI (a (40 + i) k) := (h.2.2.2.2.2.2.2.2 i hi).2 hk k h3
theorem gb_P (g : Gb a) : a 0 4 ≤ 7 := g.1.1
theorem gb_V (g : Gb a) : a 0 3 ≤ 4 := g.1.2.1
theorem gb_p0 (g : Gb a) : a 0 1 ≤ 20 := g.1.2.2.1
theorem gb_step (g : Gb a) : a 0 2 ≤ 9 := g.1.2.2.2.1
theorem gb_kind (g : Gb a) {p : Nat} (hp : p < a 0 4) : a 1 p ≤ 3 := (g.2.1 p hp).1
theorem gb_home (g : Gb a) {p : Nat} (hp : p < a 0 4) : a 2 p < a 0 3 := (g.2.1 p hp).2.1
theorem gb_from (g : Gb a) {p : Nat} (hp : p < a 0 4) : a 3 p ≤ a 0 4 := (g.2.1 p hp).2.2
theorem gb_w (g : Gb a) : Wc (a 0 1) (a 0 3) (a 0 4) (a 4) := g.2.2.1.2
theorem gb_yr (g : Gb a) : a 4 1 ≤ 9060 := g.2.2.1.1
end Acc
theorem two_pow {P : Nat} (hP : P ≤ 7) : 2 ^ P ≤ 128 := Nat.pow_le_pow_right (j := 7) (by omega) hP
theorem wc_set {p0 V P : Nat} {w : Nat → Nat} (h : Wc p0 V P w) (hP : P ≤ 7) : w 3 < 128 ∧ w 4 < 128 := by
  have h3 := h.1.2.2.2.2.1
  have h4 := h.1.2.2.2.2.2
  have := two_pow hP
  omega
theorem wc_pat {p0 V P : Nat} {w : Nat → Nat} (h : Wc p0 V P w) : w 0 ≤ 20 := h.1.1
theorem wc_owed {p0 V P : Nat} {w : Nat → Nat} (h : Wc p0 V P w) : w 2 ≤ 9999 := h.1.2.2.2.1
theorem wc_wit {p0 V P : Nat} {w : Nat → Nat} (h : Wc p0 V P w) {p : Nat} (hp : p < P) : 1 ≤ w (5 + p) ∧ w (5 + p) ≤ 9 := (h.2.1 p hp).1
theorem wc_fate {p0 V P : Nat} {w : Nat → Nat} (h : Wc p0 V P w) {p : Nat} (hp : p < P) : w (12 + p) ≤ 99 := (h.2.1 p hp).2.1
theorem wc_harm {p0 V P : Nat} {w : Nat → Nat} (h : Wc p0 V P w) {p : Nat} (hp : p < P) : w (19 + p) ≤ 9999 := (h.2.1 p hp).2.2
theorem wc_bear {p0 V P : Nat} {w : Nat → Nat} (h : Wc p0 V P w) {v : Nat} (hv : v < V) : w (26 + v) ≤ 99 := h.2.2 v hv
/-- the reference's cells that a call may leave otherwise -/
def scM (n k : Nat) : Bool := (n == 132 && (k == 12 || k == 13 || k == 14 || k == 15 || k == 16 || k == 17 || k == 23 || k == 24)) || (138 ≤ n && n ≤ 142) || n == 144 || (n == 136 && 30 ≤ k)
def Sm (σ τ : Sg) : Prop := ∀ n k, scM n k = false → τ n k = σ n k
theorem Sm.rf (σ : Sg) : Sm σ σ := fun _ _ _ => rfl
theorem Sm.tr {σ τ υ : Sg} (h : Sm σ τ) (h2 : Sm τ υ) : Sm σ υ := fun n k h3 => (h2 n k h3).trans (h n k h3)
theorem Sm.rel {a : Ab} {σ τ : Sg} (h : Sm σ τ) (r : RelM a σ) : RelM a τ := by
  obtain ⟨r1, r2, r3, r4, r5, r6, r7, r8, r9⟩ := r
  have e : ∀ n k, scM n k = false → τ n k = σ n k := h
  refine ⟨⟨?_, ?_, ?_, ?_⟩, fun p hp => ⟨?_, ?_, ?_⟩, fun k hk => ?_, ⟨?_, ?_, ?_, ?_, ?_, ?_⟩, fun k hk => ?_, fun i k hi hk => ?_, fun r hr => ⟨?_, fun v hv => ?_⟩, fun r hr => ⟨?_, ?_⟩, fun i hi => ⟨?_, fun h1 k hk => ?_⟩⟩
  · rw [e _ _ rfl]; exact r1.1
  · rw [e _ _ rfl]; exact r1.2.1
  · rw [e _ _ rfl]; exact r1.2.2.1
  · rw [e _ _ rfl]; exact r1.2.2.2
  · rw [e _ _ (by simp [scM])]; exact (r2 p hp).1
  · rw [e _ _ (by simp [scM])]; exact (r2 p hp).2.1
  · rw [e _ _ (by simp [scM])]; exact (r2 p hp).2.2
  · rw [e _ _ (by simp [scM]; omega)]; exact r3 k hk
  · rw [e _ _ rfl]; exact r4.1
  · rw [e _ _ rfl]; exact r4.2.1
  · rw [e _ _ rfl]; exact r4.2.2.1
  · rw [e _ _ rfl]; exact r4.2.2.2.1
  · rw [e _ _ rfl]; exact r4.2.2.2.2.1
  · rw [e _ _ rfl]; exact r4.2.2.2.2.2
  · rw [e _ _ (by simp [scM])]; exact r5 k hk
  · rw [e _ _ (by simp [scM])]; exact r6 i k hi hk
  · rw [e _ _ (by simp [scM])]; exact (r7 r hr).1
  · rw [e _ _ (by simp [scM])]; exact (r7 r hr).2 v hv
  · rw [e _ _ (by simp [scM])]; exact (r8 r hr).1
  · rw [e _ _ (by simp [scM])]; exact (r8 r hr).2
  · rw [e _ _ (by simp [scM])]; exact (r9 i hi).1
  · rw [e _ _ (by simp [scM])]; exact (r9 i hi).2 h1 k hk
theorem Sm.st {σ : Sg} {n k : Nat} {v : Int32} (h : scM n k = true) : Sm σ (st σ n k v) := fun m j h2 => by
  rw [st_eq]
  by_cases q : m = n ∧ j = k
  · rw [q.1, q.2, h] at h2; cases h2
  · rw [if_neg q]
/-- ranges -/
theorem in_spec (σ : Sg) (x y z : Int64) : fX12_in σ x y z = some (if y ≤ x ∧ x ≤ z then 1 else 0, σ) := by
  unfold fX12_in fX12_in_17 lg_cmp
  by_cases h1 : y ≤ x
  · have h2 : ¬ (if x > y then (1 : Int32) else if x = y then 0 else -1) < 0 := by
      by_cases g : x > y
      · rw [if_pos g]; decide
      · rw [if_neg g]
        by_cases g2 : x = y
        · rw [if_pos g2]; decide
        · exact absurd (Int64.le_antisymm (Int64.not_lt.mp g) h1) g2
    rw [if_neg h2]
    by_cases h3 : x ≤ z
    · have h4 : ¬ (0 : Int32) < (if x > z then (1 : Int32) else if x = z then 0 else -1) := by
        rw [if_neg (Int64.not_lt.mpr h3)]
        by_cases g2 : x = z
        · rw [if_pos g2]; decide
        · rw [if_neg g2]; decide
      rw [if_neg h4, if_pos ⟨h1, h3⟩]
    · have h4 : (0 : Int32) < (if x > z then (1 : Int32) else if x = z then 0 else -1) := by
        rw [if_pos (Int64.not_le.mp h3)]; decide
      rw [if_pos h4, if_neg (fun h => h3 h.2)]
  · have h2 : (if x > y then (1 : Int32) else if x = y then 0 else -1) < 0 := by
      rw [if_neg (fun g => h1 (Int64.le_of_lt g)), if_neg (fun g => h1 (by rw [g]; exact Int64.le_refl _))]; decide
    rw [if_pos h2, if_neg (fun h => h1 h.1)]
theorem i64_le (x y : Int32) : x.toInt64 ≤ y.toInt64 ↔ x ≤ y := by
  rw [Int64.le_iff_toInt_le, Int32.le_iff_toInt_le, Int32.toInt_toInt64, Int32.toInt_toInt64]
