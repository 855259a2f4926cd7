/-! THE CLASS: what its cells hold -/
theorem gk_is {ρ : Type} {k n : Nat} (f : Nat → Option ρ) (h : kd n = k) : gk k n f = f n := by unfold gk; rw [if_pos h]
def HlC (a0 a1 a2 a3 : Nat → Nat) (h : Nat) (σ : Sg) : Prop :=
  (σ h 0 = nI (if a0 1 = 0 then 0 else 1) ∧ σ h 1 = nI (a0 1) ∧ σ h 2 = nI (a0 2) ∧ σ h 3 = nI (a0 3) ∧ σ h 4 = nI (a0 4)) ∧
  (∀ p, p < a0 4 → σ (h + 1) p = nI (a1 p) ∧ σ (h + 2) p = nI (a2 p) ∧ σ (h + 4) p = fI (a3 p)) ∧
  ∀ v, v < a0 3 → σ (h + 6) v = nI (ofV (a0 4) a2 v)
def StC (V P : Nat) (w : Nat → Nat) (n : Nat) (σ : Sg) : Prop :=
  (σ n 0 = nI (w 0) ∧ σ n 1 = nI (w 2) ∧ σ n 2 = nI (w 1) ∧ σ n 3 = nI (w 4) ∧ σ n 4 = nI (w 3)) ∧
  (∀ p, p < P → σ (n + 1) p = nI (w (12 + p)) ∧ σ (n + 2) p = nI (w (19 + p)) ∧ σ (n + 3) p = nI (w (5 + p))) ∧
  ∀ v, v < V → σ (n + 4) v = nI (w (26 + v))
def PaC (V P u : Nat) (ps : Nat → Nat → Nat) (σ : Sg) : Prop := σ 17 0 = nI u ∧ ∃ o, o < 16 ∧ σ 17 1 = nI o ∧ ∀ i, i < u → StC V P (ps i) (19 + 5 * ((o + i) % 16)) σ
def ImC (V P : Nat) (kp : Nat → Nat) (im : Nat → Nat → Nat) (σ : Sg) : Prop := ∀ i, i < 2 → σ 100 i = nI (kp i) ∧ (kp i = 1 → σ 102 i = nI (im i 30) ∧ StC V P (im i) (103 + 5 * i) σ)
def ReC (V n : Nat) (r b : Nat → Nat) (σ : Sg) : Prop := σ 114 0 = nI n ∧ ∀ k, k < n → σ 115 k = nI (r k) ∧ ∀ v, v < V → σ 116 (4 * k + v) = nI (b (4 * k + v))
def BoC (n : Nat) (o hm : Nat → Nat) (σ : Sg) : Prop := σ 117 0 = nI n ∧ ∀ k, k < n → σ 118 k = nI (o k) ∧ σ 119 k = nI (hm k)
def TxC (n f : Nat) (t : Nat → Nat) (σ : Sg) : Prop := σ 1 1 = nI n ∧ σ 1 3 = fI f ∧ ∀ k, k < n → σ 2 k = nI (t k)
def NmC (h : Nat) (σ : Sg) : Prop := (h = 4 ∨ h = 125) ∧ σ 3 0 = nI h ∧ σ 0 8 = nI (129 - h)
/-- the hills of the class, at h -/
def Hl (a : Ab) (h : Nat) (σ : Sg) : Prop := NmC h σ ∧ HlC (a 0) (a 1) (a 2) (a 3) h σ
def RelC (a : Ab) (h : Nat) (σ : Sg) : Prop :=
  Hl a h σ ∧ StC (a 0 3) (a 0 4) (a 4) 11 σ ∧ PaC (a 0 3) (a 0 4) (a 5 3) (fun i => a (20 + i)) σ ∧ ImC (a 0 3) (a 0 4) (fun i => a 5 (6 + i)) (fun i => a (40 + i)) σ ∧ σ 113 0 = nI (a 5 0) ∧ ReC (a 0 3) (a 5 4) (a 7) (a 8) σ ∧ BoC (a 5 5) (a 9) (a 10) σ ∧ TxC (a 5 1) (a 5 2) (a 6) σ
theorem HlC.to {a0 a1 a2 a3 : Nat → Nat} {h : Nat} {σ τ : Sg} (x : HlC a0 a1 a2 a3 h σ) (e : ∀ m, h ≤ m → m < h + 7 → τ m = σ m) : HlC a0 a1 a2 a3 h τ := by
  obtain ⟨x1, x2, x3⟩ := x
  refine ⟨?_, fun p hp => ?_, fun v hv => ?_⟩
  · rw [e h (by omega) (by omega)]; exact x1
  · rw [e (h + 1) (by omega) (by omega), e (h + 2) (by omega) (by omega), e (h + 4) (by omega) (by omega)]; exact x2 p hp
  · rw [e (h + 6) (by omega) (by omega)]; exact x3 v hv
theorem StC.to {V P : Nat} {w : Nat → Nat} {n : Nat} {σ τ : Sg} (x : StC V P w n σ) (e : ∀ m, n ≤ m → m < n + 5 → τ m = σ m) : StC V P w n τ := by
  obtain ⟨x1, x2, x3⟩ := x
  refine ⟨?_, fun p hp => ?_, fun v hv => ?_⟩
  · rw [e n (by omega) (by omega)]; exact x1
  · rw [e (n + 1) (by omega) (by omega), e (n + 2) (by omega) (by omega), e (n + 3) (by omega) (by omega)]; exact x2 p hp
  · rw [e (n + 4) (by omega) (by omega)]; exact x3 v hv
theorem PaC.to {V P u : Nat} {ps : Nat → Nat → Nat} {σ τ : Sg} (x : PaC V P u ps σ) (e : ∀ m, 17 ≤ m → m < 99 → τ m = σ m) : PaC V P u ps τ := by
  obtain ⟨x1, o, x2, x3, x4⟩ := x
  refine ⟨by rw [e 17 (by omega) (by omega)]; exact x1, o, x2, by rw [e 17 (by omega) (by omega)]; exact x3, fun i hi => (x4 i hi).to (fun m h1 h2 => e m (by omega) (by omega))⟩
theorem ImC.to {V P : Nat} {kp : Nat → Nat} {im : Nat → Nat → Nat} {σ τ : Sg} (x : ImC V P kp im σ) (e : ∀ m, 99 ≤ m → m < 113 → τ m = σ m) : ImC V P kp im τ := by
  intro i hi
  have := x i hi
  rw [e 100 (by omega) (by omega), e 102 (by omega) (by omega)]
  exact ⟨this.1, fun h => ⟨(this.2 h).1, (this.2 h).2.to (fun m h1 h2 => e m (by omega) (by omega))⟩⟩
theorem ReC.to {V n : Nat} {r b : Nat → Nat} {σ τ : Sg} (x : ReC V n r b σ) (e : ∀ m, 114 ≤ m → m < 117 → τ m = σ m) : ReC V n r b τ := by
  unfold ReC
  rw [e 114 (by omega) (by omega), e 115 (by omega) (by omega), e 116 (by omega) (by omega)]
  exact x
theorem BoC.to {n : Nat} {o hm : Nat → Nat} {σ τ : Sg} (x : BoC n o hm σ) (e : ∀ m, 117 ≤ m → m < 120 → τ m = σ m) : BoC n o hm τ := by
  unfold BoC
  rw [e 117 (by omega) (by omega), e 118 (by omega) (by omega), e 119 (by omega) (by omega)]
  exact x
theorem TxC.to {n f : Nat} {t : Nat → Nat} {σ τ : Sg} (x : TxC n f t σ) (e : ∀ m, 1 ≤ m → m < 3 → τ m = σ m) : TxC n f t τ := by
  unfold TxC
  rw [e 1 (by omega) (by omega), e 2 (by omega) (by omega)]
  exact x
theorem NmC.to {h : Nat} {σ τ : Sg} (x : NmC h σ) (e : τ 3 = σ 3) (e2 : τ 0 = σ 0) : NmC h τ := by
  unfold NmC
  rw [e, e2]
  exact x
theorem Hl.to {a : Ab} {h : Nat} {σ τ : Sg} (x : Hl a h σ) (e : ∀ m, m = 0 ∨ m = 3 ∨ (4 ≤ m ∧ m < 11) ∨ (125 ≤ m ∧ m < 132) → τ m = σ m) : Hl a h τ := by
  have hh := x.1.1
  exact ⟨x.1.to (e 3 (by omega)) (e 0 (by omega)), x.2.to (fun m h1 h2 => e m (by omega))⟩
theorem RelC.to {a : Ab} {h : Nat} {σ τ : Sg} (x : RelC a h σ) (e : ∀ m, m < 132 → m ≠ 16 → ¬ (120 ≤ m ∧ m < 125) → τ m = σ m) : RelC a h τ := by
  obtain ⟨x1, x2, x3, x4, x5, x6, x7, x8⟩ := x
  exact ⟨x1.to (fun m hm => e m (by omega) (by omega) (by omega)), x2.to (fun m h1 h2 => e m (by omega) (by omega) (by omega)), x3.to (fun m h1 h2 => e m (by omega) (by omega) (by omega)), x4.to (fun m h1 h2 => e m (by omega) (by omega) (by omega)), by rw [e 113 (by omega) (by omega) (by omega)]; exact x5, x6.to (fun m h1 h2 => e m (by omega) (by omega) (by omega)), x7.to (fun m h1 h2 => e m (by omega) (by omega) (by omega)), x8.to (fun m h1 h2 => e m (by omega) (by omega) (by omega))⟩
section HAcc
variable {a : Ab} {h : Nat} {σ : Sg}
theorem hl_h (x : Hl a h σ) : h = 4 ∨ h = 125 := x.1.1
theorem hl_gk {ρ : Type} (x : Hl a h σ) (f : Nat → Option ρ) : gk 4 (dn (σ 3 0)) f = f h := by
  have h1 : h < 151 := by rcases x.1.1 with q | q <;> omega
  rw [x.1.2.1, dn_nI h1, gk_is]
  rcases x.1.1 with q | q <;> rw [q]
  · exact kd_4
  · exact kd_125
theorem hl_there (x : Hl a h σ) : σ h 0 = nI (if a 0 1 = 0 then 0 else 1) := x.2.1.1
theorem hl_p0 (x : Hl a h σ) : σ h 1 = nI (a 0 1) := x.2.1.2.1
theorem hl_step (x : Hl a h σ) : σ h 2 = nI (a 0 2) := x.2.1.2.2.1
theorem hl_V (x : Hl a h σ) : σ h 3 = nI (a 0 3) := x.2.1.2.2.2.1
theorem hl_P (x : Hl a h σ) : σ h 4 = nI (a 0 4) := x.2.1.2.2.2.2
theorem hl_kind (x : Hl a h σ) {p : Nat} (hp : p < a 0 4) : σ (h + 1) p = nI (a 1 p) := (x.2.2.1 p hp).1
theorem hl_home (x : Hl a h σ) {p : Nat} (hp : p < a 0 4) : σ (h + 2) p = nI (a 2 p) := (x.2.2.1 p hp).2.1
theorem hl_from (x : Hl a h σ) {p : Nat} (hp : p < a 0 4) : σ (h + 4) p = fI (a 3 p) := (x.2.2.1 p hp).2.2
theorem hl_people (x : Hl a h σ) {v : Nat} (hv : v < a 0 3) : σ (h + 6) v = nI (ofV (a 0 4) (a 2) v) := x.2.2.2 v hv
end HAcc
/-- the reference's cells stay -/
def FrC (σ τ : Sg) : Prop := ∀ n, 132 ≤ n → τ n = σ n
theorem FrC.rf (σ : Sg) : FrC σ σ := fun _ _ => rfl
theorem FrC.tr {σ τ υ : Sg} (h : FrC σ τ) (h2 : FrC τ υ) : FrC σ υ := fun n hn => (h2 n hn).trans (h n hn)
theorem frc_st {σ : Sg} {n k : Nat} {v : Int32} (h : n < 132) : FrC σ (st σ n k v) := fun m hm => st_ne (by omega)
theorem frc_sr {σ : Sg} {n : Nat} {f : Nat → Int32} (h : n < 132) : FrC σ (sr σ n f) := fun m hm => sr_ne (by omega)
/-- a call of the class does as told -/
def OkK (σ : Sg) (o : Option (Int32 × Sg)) (r : Int32 × Ab) : Prop := ∃ h τ, o = some (r.1, τ) ∧ RelC r.2 h τ ∧ FrC σ τ
theorem OkK.mk {b : Ab} {h : Nat} {σ τ : Sg} {o : Option (Int32 × Sg)} {r : Int32} (e : o = some (r, τ)) (x : RelC b h τ) (f : FrC σ τ) : OkK σ o (r, b) := ⟨h, τ, e, x, f⟩
theorem OkK.same {a : Ab} {h : Nat} {σ : Sg} (x : RelC a h σ) {o : Option (Int32 × Sg)} {r : Int32} (e : o = some (r, σ)) : OkK σ o (r, a) := ⟨h, σ, e, x, FrC.rf σ⟩
/-- the state of the class -/
def sw (a : Ab) (σ : Sg) (w : Nat → Nat) : Sg := fun n k =>
  if n = 11 then (if k = 0 then nI (w 0) else if k = 1 then nI (w 2) else if k = 2 then nI (w 1) else if k = 3 then nI (w 4) else if k = 4 then nI (w 3) else σ n k)
  else if n = 12 then (if k < a 0 4 then nI (w (12 + k)) else σ n k)
  else if n = 13 then (if k < a 0 4 then nI (w (19 + k)) else σ n k)
  else if n = 14 then (if k < a 0 4 then nI (w (5 + k)) else σ n k)
  else if n = 15 then (if k < a 0 3 then nI (w (26 + k)) else σ n k) else σ n k
section Sw
variable {a : Ab} {σ : Sg} {w : Nat → Nat}
theorem sw_ne {n : Nat} (h : n < 11 ∨ 15 < n) : sw a σ w n = σ n := by
  funext k
  unfold sw
  rw [if_neg (by omega), if_neg (by omega), if_neg (by omega), if_neg (by omega), if_neg (by omega)]
theorem sw_pat : sw a σ w 11 0 = nI (w 0) := by simp [sw]
theorem sw_owed : sw a σ w 11 1 = nI (w 2) := by simp [sw]
theorem sw_yrs : sw a σ w 11 2 = nI (w 1) := by simp [sw]
theorem sw_told : sw a σ w 11 3 = nI (w 4) := by simp [sw]
theorem sw_went : sw a σ w 11 4 = nI (w 3) := by simp [sw]
theorem sw_fate {p : Nat} (h : p < a 0 4) : sw a σ w 12 p = nI (w (12 + p)) := by simp [sw, h]
theorem sw_harm {p : Nat} (h : p < a 0 4) : sw a σ w 13 p = nI (w (19 + p)) := by simp [sw, h]
theorem sw_wit {p : Nat} (h : p < a 0 4) : sw a σ w 14 p = nI (w (5 + p)) := by simp [sw, h]
theorem sw_bear {v : Nat} (h : v < a 0 3) : sw a σ w 15 v = nI (w (26 + v)) := by simp [sw, h]
theorem sw_self (x : StC (a 0 3) (a 0 4) w 11 σ) : sw a σ w = σ := by
  obtain ⟨⟨x1, x2, x3, x4, x5⟩, y, z⟩ := x
  funext n k
  unfold sw
  by_cases h1 : n = 11
  · rw [if_pos h1, h1]
    by_cases k0 : k = 0
    · rw [if_pos k0, k0, x1]
    rw [if_neg k0]
    by_cases k1 : k = 1
    · rw [if_pos k1, k1, x2]
    rw [if_neg k1]
    by_cases k2 : k = 2
    · rw [if_pos k2, k2, x3]
    rw [if_neg k2]
    by_cases k3 : k = 3
    · rw [if_pos k3, k3, x4]
    rw [if_neg k3]
    by_cases k4 : k = 4
    · rw [if_pos k4, k4, x5]
    rw [if_neg k4]
  rw [if_neg h1]
  by_cases h2 : n = 12
  · rw [if_pos h2, h2]
    by_cases q : k < a 0 4
    · rw [if_pos q]; exact (y k q).1.symm
    · rw [if_neg q]
  rw [if_neg h2]
  by_cases h3 : n = 13
  · rw [if_pos h3, h3]
    by_cases q : k < a 0 4
    · rw [if_pos q]; exact (y k q).2.1.symm
    · rw [if_neg q]
  rw [if_neg h3]
  by_cases h4 : n = 14
  · rw [if_pos h4, h4]
    by_cases q : k < a 0 4
    · rw [if_pos q]; exact (y k q).2.2.symm
    · rw [if_neg q]
  rw [if_neg h4]
  by_cases h5 : n = 15
  · rw [if_pos h5, h5]
    by_cases q : k < a 0 3
    · rw [if_pos q]; exact (z k q).symm
    · rw [if_neg q]
  rw [if_neg h5]
theorem sw_StC : StC (a 0 3) (a 0 4) w 11 (sw a σ w) := ⟨⟨sw_pat, sw_owed, sw_yrs, sw_told, sw_went⟩, fun p hp => ⟨sw_fate hp, sw_harm hp, sw_wit hp⟩, fun v hv => sw_bear hv⟩
theorem sw_sw (w' : Nat → Nat) : sw a (sw a σ w) w' = sw a σ w' := by
  funext n k
  by_cases h : n < 11 ∨ 15 < n
  · rw [sw_ne h, sw_ne h, sw_ne h]
  · rcases (show n = 11 ∨ n = 12 ∨ n = 13 ∨ n = 14 ∨ n = 15 by omega) with rfl | rfl | rfl | rfl | rfl
    all_goals
      simp [sw]
      repeat' split
      all_goals rfl
theorem sw_st_pat (x : Nat) : st (sw a σ w) 11 0 (nI x) = sw a σ (va_up w 0 x) := by
  funext n k
  rw [st_eq]
  unfold sw va_up
  by_cases h1 : n = 11
  · by_cases k0 : k = 0 <;> simp [h1, k0]
  · simp [h1]
theorem sw_st_owed (x : Nat) : st (sw a σ w) 11 1 (nI x) = sw a σ (va_up w 2 x) := by
  funext n k
  rw [st_eq]
  unfold sw va_up
  by_cases h1 : n = 11
  · by_cases k0 : k = 1 <;> simp [h1, k0]
  · simp [h1]
    repeat' split
    all_goals first | rfl | omega
theorem sw_st_yrs (x : Nat) : st (sw a σ w) 11 2 (nI x) = sw a σ (va_up w 1 x) := by
  funext n k
  rw [st_eq]
  unfold sw va_up
  by_cases h1 : n = 11
  · by_cases k0 : k = 2 <;> simp [h1, k0]
  · simp [h1]
    repeat' split
    all_goals first | rfl | omega
theorem sw_st_told (x : Nat) : st (sw a σ w) 11 3 (nI x) = sw a σ (va_up w 4 x) := by
  funext n k
  rw [st_eq]
  unfold sw va_up
  by_cases h1 : n = 11
  · by_cases k0 : k = 3 <;> simp [h1, k0]
  · simp [h1]
    repeat' split
    all_goals first | rfl | omega
theorem sw_st_went (x : Nat) : st (sw a σ w) 11 4 (nI x) = sw a σ (va_up w 3 x) := by
  funext n k
  rw [st_eq]
  unfold sw va_up
  by_cases h1 : n = 11
  · by_cases k0 : k = 4 <;> simp [h1, k0]
  · simp [h1]
    repeat' split
    all_goals first | rfl | omega
theorem sw_st_fate (hP : a 0 4 ≤ 7) {p : Nat} (hp : p < a 0 4) (x : Nat) : st (sw a σ w) 12 p (nI x) = sw a σ (va_up w (12 + p) x) := by
  funext n k
  rw [st_eq]
  unfold sw va_up
  repeat' split
  all_goals first | rfl | omega
theorem sw_st_harm (hP : a 0 4 ≤ 7) {p : Nat} (hp : p < a 0 4) (x : Nat) : st (sw a σ w) 13 p (nI x) = sw a σ (va_up w (19 + p) x) := by
  funext n k
  rw [st_eq]
  unfold sw va_up
  repeat' split
  all_goals first | rfl | omega
theorem sw_st_wit (hP : a 0 4 ≤ 7) {p : Nat} (hp : p < a 0 4) (x : Nat) : st (sw a σ w) 14 p (nI x) = sw a σ (va_up w (5 + p) x) := by
  funext n k
  rw [st_eq]
  unfold sw va_up
  repeat' split
  all_goals first | rfl | omega
theorem sw_st_bear (hP : a 0 4 ≤ 7) {v : Nat} (hv : v < a 0 3) (x : Nat) : st (sw a σ w) 15 v (nI x) = sw a σ (va_up w (26 + v) x) := by
  funext n k
  rw [st_eq]
  unfold sw va_up
  repeat' split
  all_goals first | rfl | omega
end Sw
theorem Hl.sw {a : Ab} {h : Nat} {σ : Sg} (x : Hl a h σ) (w : Nat → Nat) : Hl a h (sw a σ w) := x.to (fun m hm => sw_ne (by omega))
theorem frc_sw (a : Ab) (σ : Sg) (w : Nat → Nat) : FrC σ (sw a σ w) := fun n hn => sw_ne (by omega)
/-- the bargain -/
def bs (σ : Sg) (x y : Int32) : Sg := fun n k => if n = 16 ∧ k = 0 then x else if n = 16 ∧ k = 1 then y else σ n k
theorem bs_0 (σ : Sg) (x y : Int32) : bs σ x y 16 0 = x := by simp [bs]
theorem bs_1 (σ : Sg) (x y : Int32) : bs σ x y 16 1 = y := by simp [bs]
theorem bs_ne {σ : Sg} {x y : Int32} {n : Nat} (h : n ≠ 16) : bs σ x y n = σ n := by
  funext k
  simp [bs, h]
theorem bs_bs (σ : Sg) (x y u v : Int32) : bs (bs σ x y) u v = bs σ u v := by
  funext n k
  unfold bs
  repeat' split
  all_goals rfl
theorem bs_self (σ : Sg) : bs σ (σ 16 0) (σ 16 1) = σ := by
  funext n k
  unfold bs
  split
  · next h => rw [h.1, h.2]
  · split
    · next h => rw [h.1, h.2]
    · rfl
theorem bs_st0 (σ : Sg) (x y u : Int32) : st (bs σ x y) 16 0 u = bs σ u y := by
  funext n k
  rw [st_eq]
  unfold bs
  repeat' split
  all_goals first | rfl | omega
theorem bs_st1 (σ : Sg) (x y u : Int32) : st (bs σ x y) 16 1 u = bs σ x u := by
  funext n k
  rw [st_eq]
  unfold bs
  repeat' split
  all_goals first | rfl | omega
theorem bs_in (σ : Sg) (x y : Int32) : st (st σ 16 0 x) 16 1 y = bs σ x y := by
  funext n k
  rw [st_eq, st_eq]
  unfold bs
  repeat' split
  all_goals first | rfl | omega
theorem bs_sw (a : Ab) (σ : Sg) (w : Nat → Nat) (x y : Int32) : bs (sw a σ w) x y = sw a (bs σ x y) w := by
  funext n k
  by_cases h : n = 16
  · subst h
    rw [sw_ne (show 16 < 11 ∨ 15 < 16 by omega)]
    unfold bs
    rw [sw_ne (show 16 < 11 ∨ 15 < 16 by omega)]
  · rw [bs_ne h]
    unfold sw
    rw [bs_ne h]
theorem Hl.bs {a : Ab} {h : Nat} {σ : Sg} (x : Hl a h σ) (u v : Int32) : Hl a h (bs σ u v) := x.to (fun m hm => bs_ne (by omega))
theorem RelC.bs {a : Ab} {h : Nat} {σ : Sg} (x : RelC a h σ) (u v : Int32) : RelC a h (bs σ u v) := x.to (fun m h1 h2 h3 => bs_ne h2)
theorem frc_bs (σ : Sg) (x y : Int32) : FrC σ (bs σ x y) := fun n hn => bs_ne (by omega)
theorem RelC.sw {a : Ab} {h : Nat} {σ : Sg} (x : RelC a h σ) (w : Nat → Nat) : RelC (va_up a 4 w) h (sw a σ w) := by
  obtain ⟨x1, x2, x3, x4, x5, x6, x7, x8⟩ := x
  refine ⟨x1.sw w, sw_StC, ?_, ?_, ?_, x6.to (fun m h1 h2 => sw_ne (by omega)), x7.to (fun m h1 h2 => sw_ne (by omega)), x8.to (fun m h1 h2 => sw_ne (by omega))⟩
  · have e : (fun i => va_up a 4 w (20 + i)) = fun i => a (20 + i) := by funext i; exact va_up_ne _ _ (by omega)
    rw [e]
    exact x3.to (fun m h1 h2 => sw_ne (by omega))
  · have e : (fun i => va_up a 4 w (40 + i)) = fun i => a (40 + i) := by funext i; exact va_up_ne _ _ (by omega)
    rw [e]
    exact x4.to (fun m h1 h2 => sw_ne (by omega))
  · rw [sw_ne (by omega)]; exact x5
