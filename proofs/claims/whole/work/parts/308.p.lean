/-! the class: the past, images -/
theorem cpy_at {f g : Nat → Int32} {N p : Nat} (h : p < N) : va_cpy f g 0 0 N p = f p := by
  unfold va_cpy
  rw [if_pos ⟨by omega, by omega⟩, Nat.sub_zero, Nat.zero_add]
theorem cCopy {V P : Nat} {w : Nat → Nat} {n0 n1 : Nat} {σ : Sg} (hne : n0 + 5 ≤ n1 ∨ n1 + 5 ≤ n0) (hP : P ≤ 7) (hV : V ≤ 4) (x : StC V P w n1 σ) : ∃ τ, fX10_copyFrom n0 n1 σ = some τ ∧ StC V P w n0 τ ∧ ∀ m, ¬ (n0 ≤ m ∧ m < n0 + 5) → τ m = σ m := by
  obtain ⟨⟨x1, x2, x3, x4, x5⟩, y, z⟩ := x
  have c7 : ¬ (0 : Int32) < 0 ∧ ¬ (0 : Int32) < 0 ∧ ¬ (7 : Int32) < 0 ∧ (0 : Int32).toNatClampNeg + (7 : Int32).toNatClampNeg ≤ 7 ∧ (0 : Int32).toNatClampNeg + (7 : Int32).toNatClampNeg ≤ 7 := by decide
  have c4 : ¬ (0 : Int32) < 0 ∧ ¬ (0 : Int32) < 0 ∧ ¬ (4 : Int32) < 0 ∧ (0 : Int32).toNatClampNeg + (4 : Int32).toNatClampNeg ≤ 4 ∧ (0 : Int32).toNatClampNeg + (4 : Int32).toNatClampNeg ≤ 4 := by decide
  have d0 : (0 : Int32).toNatClampNeg = 0 := by decide
  have d7 : (7 : Int32).toNatClampNeg = 7 := by decide
  have d4 : (4 : Int32).toNatClampNeg = 4 := by decide
  unfold fX10_copyFrom
  simp only [lt_eq]
  rw [if_pos c7, if_pos c7, if_pos c7, if_pos c4]
  rw [d0, d7, d4]
  simp (disch := omega) only [st_ne, sr_ne]
  refine ⟨_, rfl, ⟨⟨?_, ?_, ?_, ?_, ?_⟩, fun p hp => ⟨?_, ?_, ?_⟩, fun v hv => ?_⟩, fun m hm => ?_⟩
  · simp (disch := omega) only [sr_ne, st_at]; simp; exact x1
  · simp (disch := omega) only [sr_ne, st_at]; simp; exact x2
  · simp (disch := omega) only [sr_ne, st_at]; simp; exact x3
  · simp (disch := omega) only [sr_ne, st_at]; simp; exact x4
  · simp (disch := omega) only [sr_ne, st_at]; simp; exact x5
  · simp (disch := omega) only [sr_ne, sr_at]
    rw [cpy_at (by omega)]; exact (y p hp).1
  · simp (disch := omega) only [sr_ne, sr_at]
    rw [cpy_at (by omega)]; exact (y p hp).2.1
  · simp (disch := omega) only [sr_ne, sr_at]
    rw [cpy_at (by omega)]; exact (y p hp).2.2
  · rw [sr_at, cpy_at (by omega)]; exact z v hv
  · rw [sr_ne (by omega), sr_ne (by omega), sr_ne (by omega), sr_ne (by omega), st_ne (by omega), st_ne (by omega), st_ne (by omega), st_ne (by omega), st_ne (by omega)]
theorem kd19_all : ∀ j : Fin 16, kd (19 + 5 * j.val) = 10 := by decide +kernel
theorem kd19 {j : Nat} (hj : j < 16) : kd (19 + 5 * j) = 10 := kd19_all ⟨j, hj⟩
theorem kd103 {j : Nat} (hj : j < 2) : kd (103 + 5 * j) = 10 := by
  rcases (show j = 0 ∨ j = 1 by omega) with rfl | rfl
  · decide +kernel
  · decide +kernel
theorem rm16 {n : Nat} (h : n < 1000000) : nI n - nI n / 16 * 16 = nI (n % 16) := rm_nI (d := 16) (by omega) (by omega) (by omega)
theorem cRem32 {a : Ab} {h : Nat} {σ : Sg} (g : Gb a) (hS : StC (a 0 3) (a 0 4) (a 4) 11 σ) {o u : Nat} (ho : o < 16) (hu : u < 16) (e0 : σ 17 0 = nI u) (e1 : σ 17 1 = nI o) : ∃ τ, fX7_remember_32 11 σ = some τ ∧ τ 17 0 = nI (u + 1) ∧ τ 17 1 = nI o ∧ StC (a 0 3) (a 0 4) (a 4) (19 + 5 * ((o + u) % 16)) τ ∧ ∀ m, ¬ (19 + 5 * ((o + u) % 16) ≤ m ∧ m < 24 + 5 * ((o + u) % 16)) → m ≠ 17 → τ m = σ m := by
  have hm : (o + u) % 16 < 16 := Nat.mod_lt _ (by omega)
  obtain ⟨τ, t1, t2, t3⟩ := cCopy (n0 := 19 + 5 * ((o + u) % 16)) (n1 := 11) (by omega) (gb_P g) (gb_V g) hS
  refine ⟨st τ 17 0 (nI (u + 1)), ?_, ?_, ?_, ?_, fun m h1 h2 => ?_⟩
  · unfold fX7_remember_32
    have ec : (nI ((o + u) % 16)).toNatClampNeg = (o + u) % 16 := cl_nI (by omega)
    rw [e0, e1, nI_add, rm16 (by omega), if_pos (inb_nI hm (by omega)), ec, gk_is _ (kd19 hm), t1, bv_some, t3 17 (by omega), e0, li1, nI_add, lt_eq]
  · rw [st_at, if_pos rfl]
  · rw [st_at, if_neg (by omega), t3 17 (by omega)]; exact e1
  · exact t2.to (fun m h1 h2 => st_ne (by omega))
  · rw [st_ne h2]; exact t3 m (by omega)
theorem cRemember {a : Ab} {h : Nat} {σ : Sg} (x : RelC a h σ) (g : Gb a) : ∃ τ, fX7_remember 11 σ = some τ ∧ RelC (remA a) h τ ∧ FrC σ τ := by
  have hu := gb_undos g
  obtain ⟨x1, x2, ⟨p0, o, p1, p2, p3⟩, x4, x5, x6, x7, x8⟩ := x
  have e5 : ∀ k, k ≠ 3 → remA a 5 k = a 5 k := fun k hk => va_up_ne _ _ hk
  have ei : (fun i => remA a (40 + i)) = fun i => a (40 + i) := by
    funext i
    show (if 40 + i = 5 then _ else if 20 ≤ 40 + i ∧ 40 + i < 36 then _ else a (40 + i)) = _
    rw [if_neg (by omega), if_neg (by omega)]
  have ek : (fun i => remA a 5 (6 + i)) = fun i => a 5 (6 + i) := by
    funext i
    exact e5 _ (by omega)
  unfold fX7_remember
  rw [p0]
  by_cases q : a 5 3 = 16
  · rw [if_pos (show nI (a 5 3) = 16 by rw [q]; rfl), p2, li1, nI_add, rm16 (by omega), lt_eq, st_at, if_neg (by omega), p0, sb_nI (by omega), lt_eq]
    generalize hT : st (st σ 17 1 (nI ((o + 1) % 16))) 17 0 (nI (a 5 3 - 1)) = T
    have to : ∀ m, m ≠ 17 → T m = σ m := fun m hm => by rw [← hT, st_ne hm, st_ne hm]
    have hm : (o + 1) % 16 < 16 := Nat.mod_lt _ (by omega)
    obtain ⟨τ, t1, t2, t3, t4, t5⟩ := cRem32 (h := h) g (σ := T) (x2.to (fun m h1 h2 => to m (by omega))) (o := (o + 1) % 16) (u := 15) hm (by omega) (by rw [← hT, st_at, if_pos rfl, q]) (by rw [← hT, st_eq, if_neg (by omega), st_at, if_pos rfl])
    have tm : ∀ m, m < 17 ∨ 99 ≤ m → τ m = σ m := fun m hm => by rw [t5 m (by omega) (by omega), to m (by omega)]
    refine ⟨τ, t1, ⟨x1.to (fun m hm => tm m (by omega)), x2.to (fun m h1 h2 => tm m (by omega)), ⟨?_, (o + 1) % 16, hm, t3, fun i hi => ?_⟩, ?_, ?_, ?_, ?_, ?_⟩, fun n hn => tm n (by omega)⟩
    · rw [t2, remA_u, if_pos q]
    · rw [remA_u, if_pos q] at hi
      have er : remA a (20 + i) = if i = 15 then a 4 else a (20 + (i + 1)) := by
        show (if 20 + i = 5 then _ else if 20 ≤ 20 + i ∧ 20 + i < 36 then (if a 5 3 = 16 then (if 20 + i = 35 then a 4 else a (20 + i + 1)) else _) else a (20 + i)) = _
        rw [if_neg (by omega), if_pos (by omega), if_pos q]
        by_cases c : i = 15
        · rw [if_pos (by omega), if_pos c]
        · rw [if_neg (by omega), if_neg c]; rfl
      show StC _ _ (remA a (20 + i)) _ _
      rw [er]
      by_cases c : i = 15
      · rw [if_pos c, c]; exact t4
      · rw [if_neg c]
        have := p3 (i + 1) (by omega)
        rw [show (o + (i + 1)) % 16 = ((o + 1) % 16 + i) % 16 by omega] at this
        have h16 : ((o + 1) % 16 + i) % 16 < 16 := Nat.mod_lt _ (by omega)
        exact this.to (fun m h1 h2 => by rw [t5 m (by omega) (by omega), to m (by omega)])
    · show ImC (a 0 3) (a 0 4) (fun i => remA a 5 (6 + i)) (fun i => remA a (40 + i)) τ
      rw [ei, ek]; exact x4.to (fun m h1 h2 => tm m (by omega))
    · rw [tm 113 (by omega), e5 0 (by omega)]; exact x5
    · rw [e5 4 (by omega)]; exact x6.to (fun m h1 h2 => tm m (by omega))
    · rw [e5 5 (by omega)]; exact x7.to (fun m h1 h2 => tm m (by omega))
    · rw [e5 1 (by omega), e5 2 (by omega)]; exact x8.to (fun m h1 h2 => tm m (by omega))
  · rw [if_neg (show ¬ nI (a 5 3) = 16 by rw [li16, eq_nI (by omega) (by omega)]; exact q)]
    obtain ⟨τ, t1, t2, t3, t4, t5⟩ := cRem32 (h := h) g x2 (o := o) (u := a 5 3) p1 (by omega) p0 p2
    have tm : ∀ m, m < 17 ∨ 99 ≤ m → τ m = σ m := fun m hm => t5 m (by omega) (by omega)
    refine ⟨τ, t1, ⟨x1.to (fun m hm => tm m (by omega)), x2.to (fun m h1 h2 => tm m (by omega)), ⟨?_, o, p1, t3, fun i hi => ?_⟩, ?_, ?_, ?_, ?_, ?_⟩, fun n hn => tm n (by omega)⟩
    · rw [t2, remA_u, if_neg q]
    · rw [remA_u, if_neg q] at hi
      have er : remA a (20 + i) = if i = a 5 3 then a 4 else a (20 + i) := by
        show (if 20 + i = 5 then _ else if 20 ≤ 20 + i ∧ 20 + i < 36 then (if a 5 3 = 16 then _ else if 20 + i = 20 + a 5 3 then a 4 else a (20 + i)) else a (20 + i)) = _
        rw [if_neg (by omega), if_pos (by omega), if_neg q]
        by_cases c : i = a 5 3
        · rw [if_pos (by omega), if_pos c]
        · rw [if_neg (by omega), if_neg c]
      show StC _ _ (remA a (20 + i)) _ _
      rw [er]
      by_cases c : i = a 5 3
      · rw [if_pos c, c]; exact t4
      · rw [if_neg c]
        have := p3 i (by omega)
        have h16 : (o + i) % 16 < 16 := Nat.mod_lt _ (by omega)
        exact this.to (fun m h1 h2 => t5 m (by omega) (by omega))
    · show ImC (a 0 3) (a 0 4) (fun i => remA a 5 (6 + i)) (fun i => remA a (40 + i)) τ
      rw [ei, ek]; exact x4.to (fun m h1 h2 => tm m (by omega))
    · rw [tm 113 (by omega), e5 0 (by omega)]; exact x5
    · rw [e5 4 (by omega)]; exact x6.to (fun m h1 h2 => tm m (by omega))
    · rw [e5 5 (by omega)]; exact x7.to (fun m h1 h2 => tm m (by omega))
    · rw [e5 1 (by omega), e5 2 (by omega)]; exact x8.to (fun m h1 h2 => tm m (by omega))
