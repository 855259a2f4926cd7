/-! the reference: what is kept of the past -/
theorem relM_past {a a' : Ab} {σ τ : Sg} (h : RelM a σ) (e : ∀ n k, (n != 143 && !(n == 132 && k == 25)) = true → τ n k = σ n k) (ea0 : a' 0 = a 0) (ea1 : a' 1 = a 1) (ea2 : a' 2 = a 2) (ea3 : a' 3 = a 3) (ea4 : a' 4 = a 4) (ea6 : a' 6 = a 6) (ea7 : a' 7 = a 7) (ea8 : a' 8 = a 8) (ea9 : a' 9 = a 9) (ea10 : a' 10 = a 10) (ea5 : ∀ k, (k ≠ 3) → a' 5 k = a 5 k) (eai : ∀ i, a' (40 + i) = a (40 + i)) (hu : τ 132 25 = nI (a' 5 3)) (hp : ∀ i k, i < a' 5 3 → k < 30 → τ 143 (30 * i + k) = nI (a' (20 + i) k)) : RelM a' τ := by
  obtain ⟨r1, r2, r3, r4, r5, r6, r7, r8, r9⟩ := h
  refine ⟨⟨?_, ?_, ?_, ?_⟩, fun p hp => ⟨?_, ?_, ?_⟩, fun k hk => ?_, ⟨?_, ?_, ?_, ?_, ?_, ?_⟩, fun k hk => ?_, fun i k hi hk => ?_, fun r hr => ⟨?_, fun v hv => ?_⟩, fun r hr => ⟨?_, ?_⟩, fun i hi => ⟨?_, fun h1 k hk => ?_⟩⟩
  · rw [e _ _ (by decide), ea0]; exact r1.1
  · rw [e _ _ (by decide), ea0]; exact r1.2.1
  · rw [e _ _ (by decide), ea0]; exact r1.2.2.1
  · rw [e _ _ (by decide), ea0]; exact r1.2.2.2
  · rw [e _ _ (by simp), ea1]; exact (r2 p (by rw [ea0] at hp; exact hp)).1
  · rw [e _ _ (by simp), ea2]; exact (r2 p (by rw [ea0] at hp; exact hp)).2.1
  · rw [e _ _ (by simp), ea3]; exact (r2 p (by rw [ea0] at hp; exact hp)).2.2
  · rw [e _ _ (by simp), ea4]; exact r3 k hk
  · rw [e _ _ (by decide), ea5 0 (by decide)]; exact r4.1
  · rw [e _ _ (by decide), ea5 1 (by decide)]; exact r4.2.1
  · rw [e _ _ (by decide), ea5 2 (by decide)]; exact r4.2.2.1
  · exact hu
  · rw [e _ _ (by decide), ea5 4 (by decide)]; exact r4.2.2.2.2.1
  · rw [e _ _ (by decide), ea5 5 (by decide)]; exact r4.2.2.2.2.2
  · rw [e _ _ (by simp), ea6]; exact r5 k (by rw [ea5 1 (by decide)] at hk; exact hk)
  · exact hp i k hi hk
  · rw [e _ _ (by simp), ea7]; exact (r7 r (by rw [ea5 4 (by decide)] at hr; exact hr)).1
  · rw [e _ _ (by simp), ea8]; exact (r7 r (by rw [ea5 4 (by decide)] at hr; exact hr)).2 v (by rw [ea0] at hv; exact hv)
  · rw [e _ _ (by simp), ea9]; exact (r8 r (by rw [ea5 5 (by decide)] at hr; exact hr)).1
  · rw [e _ _ (by simp), ea10]; exact (r8 r (by rw [ea5 5 (by decide)] at hr; exact hr)).2
  · rw [e _ _ (by simp), ea5 (6 + i) (by omega)]; exact (r9 i hi).1
  · rw [e _ _ (by simp), eai i]; exact (r9 i hi).2 (by rw [ea5 (6 + i) (by omega)] at h1; exact h1) k hk
theorem relM_undo {a a' : Ab} {σ τ : Sg} (h : RelM a σ) (e : ∀ n k, (n != 136 && !(n == 132 && k == 25)) = true → τ n k = σ n k) (ea0 : a' 0 = a 0) (ea1 : a' 1 = a 1) (ea2 : a' 2 = a 2) (ea3 : a' 3 = a 3) (ea6 : a' 6 = a 6) (ea7 : a' 7 = a 7) (ea8 : a' 8 = a 8) (ea9 : a' 9 = a 9) (ea10 : a' 10 = a 10) (ea5 : ∀ k, (k ≠ 3) → a' 5 k = a 5 k) (eap : ∀ i, a' (20 + i) = a (20 + i)) (eai : ∀ i, a' (40 + i) = a (40 + i)) (hle : a' 5 3 ≤ a 5 3) (hu : τ 132 25 = nI (a' 5 3)) (hw : ∀ k, k < 30 → τ 136 k = nI (a' 4 k)) : RelM a' τ := by
  obtain ⟨r1, r2, r3, r4, r5, r6, r7, r8, r9⟩ := h
  refine ⟨⟨?_, ?_, ?_, ?_⟩, fun p hp => ⟨?_, ?_, ?_⟩, fun k hk => ?_, ⟨?_, ?_, ?_, ?_, ?_, ?_⟩, fun k hk => ?_, fun i k hi hk => ?_, fun r hr => ⟨?_, fun v hv => ?_⟩, fun r hr => ⟨?_, ?_⟩, fun i hi => ⟨?_, fun h1 k hk => ?_⟩⟩
  · rw [e _ _ (by decide), ea0]; exact r1.1
  · rw [e _ _ (by decide), ea0]; exact r1.2.1
  · rw [e _ _ (by decide), ea0]; exact r1.2.2.1
  · rw [e _ _ (by decide), ea0]; exact r1.2.2.2
  · rw [e _ _ (by simp), ea1]; exact (r2 p (by rw [ea0] at hp; exact hp)).1
  · rw [e _ _ (by simp), ea2]; exact (r2 p (by rw [ea0] at hp; exact hp)).2.1
  · rw [e _ _ (by simp), ea3]; exact (r2 p (by rw [ea0] at hp; exact hp)).2.2
  · exact hw k hk
  · rw [e _ _ (by decide), ea5 0 (by decide)]; exact r4.1
  · rw [e _ _ (by decide), ea5 1 (by decide)]; exact r4.2.1
  · rw [e _ _ (by decide), ea5 2 (by decide)]; exact r4.2.2.1
  · exact hu
  · rw [e _ _ (by decide), ea5 4 (by decide)]; exact r4.2.2.2.2.1
  · rw [e _ _ (by decide), ea5 5 (by decide)]; exact r4.2.2.2.2.2
  · rw [e _ _ (by simp), ea6]; exact r5 k (by rw [ea5 1 (by decide)] at hk; exact hk)
  · rw [e _ _ (by simp), eap i]; exact r6 i k (by omega) hk
  · rw [e _ _ (by simp), ea7]; exact (r7 r (by rw [ea5 4 (by decide)] at hr; exact hr)).1
  · rw [e _ _ (by simp), ea8]; exact (r7 r (by rw [ea5 4 (by decide)] at hr; exact hr)).2 v (by rw [ea0] at hv; exact hv)
  · rw [e _ _ (by simp), ea9]; exact (r8 r (by rw [ea5 5 (by decide)] at hr; exact hr)).1
  · rw [e _ _ (by simp), ea10]; exact (r8 r (by rw [ea5 5 (by decide)] at hr; exact hr)).2
  · rw [e _ _ (by simp), ea5 (6 + i) (by omega)]; exact (r9 i hi).1
  · rw [e _ _ (by simp), eai i]; exact (r9 i hi).2 (by rw [ea5 (6 + i) (by omega)] at h1; exact h1) k hk
theorem relM_keep {a a' : Ab} {σ τ : Sg} (h : RelM a σ) (e : ∀ n k, (n != 149 && n != 150 && !(n == 132 && k == 25)) = true → τ n k = σ n k) (ea0 : a' 0 = a 0) (ea1 : a' 1 = a 1) (ea2 : a' 2 = a 2) (ea3 : a' 3 = a 3) (ea4 : a' 4 = a 4) (ea6 : a' 6 = a 6) (ea7 : a' 7 = a 7) (ea8 : a' 8 = a 8) (ea9 : a' 9 = a 9) (ea10 : a' 10 = a 10) (ea5 : ∀ k, (k ≠ 3 ∧ k ≠ 6 ∧ k ≠ 7) → a' 5 k = a 5 k) (hle : a' 5 3 = 0) (hu : τ 132 25 = nI (a' 5 3)) (hk1 : ∀ i, i < 2 → τ 150 i = nI (a' 5 (6 + i)) ∧ (a' 5 (6 + i) = 1 → ∀ k, k < 31 → τ 149 (31 * i + k) = nI (a' (40 + i) k))) : RelM a' τ := by
  obtain ⟨r1, r2, r3, r4, r5, r6, r7, r8, r9⟩ := h
  refine ⟨⟨?_, ?_, ?_, ?_⟩, fun p hp => ⟨?_, ?_, ?_⟩, fun k hk => ?_, ⟨?_, ?_, ?_, ?_, ?_, ?_⟩, fun k hk => ?_, fun i k hi hk => ?_, fun r hr => ⟨?_, fun v hv => ?_⟩, fun r hr => ⟨?_, ?_⟩, fun i hi => ⟨?_, fun h1 k hk => ?_⟩⟩
  · rw [e _ _ (by decide), ea0]; exact r1.1
  · rw [e _ _ (by decide), ea0]; exact r1.2.1
  · rw [e _ _ (by decide), ea0]; exact r1.2.2.1
  · rw [e _ _ (by decide), ea0]; exact r1.2.2.2
  · rw [e _ _ (by simp), ea1]; exact (r2 p (by rw [ea0] at hp; exact hp)).1
  · rw [e _ _ (by simp), ea2]; exact (r2 p (by rw [ea0] at hp; exact hp)).2.1
  · rw [e _ _ (by simp), ea3]; exact (r2 p (by rw [ea0] at hp; exact hp)).2.2
  · rw [e _ _ (by simp), ea4]; exact r3 k hk
  · rw [e _ _ (by decide), ea5 0 (by decide)]; exact r4.1
  · rw [e _ _ (by decide), ea5 1 (by decide)]; exact r4.2.1
  · rw [e _ _ (by decide), ea5 2 (by decide)]; exact r4.2.2.1
  · exact hu
  · rw [e _ _ (by decide), ea5 4 (by decide)]; exact r4.2.2.2.2.1
  · rw [e _ _ (by decide), ea5 5 (by decide)]; exact r4.2.2.2.2.2
  · rw [e _ _ (by simp), ea6]; exact r5 k (by rw [ea5 1 (by decide)] at hk; exact hk)
  · omega
  · rw [e _ _ (by simp), ea7]; exact (r7 r (by rw [ea5 4 (by decide)] at hr; exact hr)).1
  · rw [e _ _ (by simp), ea8]; exact (r7 r (by rw [ea5 4 (by decide)] at hr; exact hr)).2 v (by rw [ea0] at hv; exact hv)
  · rw [e _ _ (by simp), ea9]; exact (r8 r (by rw [ea5 5 (by decide)] at hr; exact hr)).1
  · rw [e _ _ (by simp), ea10]; exact (r8 r (by rw [ea5 5 (by decide)] at hr; exact hr)).2
  · exact (hk1 i hi).1
  · exact (hk1 i hi).2 h1 k hk
theorem relM_back {a a' : Ab} {σ τ : Sg} (h : RelM a σ) (e : ∀ n k, (n != 136 && !(n == 132 && k == 25) && !(n == 132 && k == 8)) = true → τ n k = σ n k) (ea0 : a' 0 = a 0) (ea1 : a' 1 = a 1) (ea2 : a' 2 = a 2) (ea3 : a' 3 = a 3) (ea6 : a' 6 = a 6) (ea7 : a' 7 = a 7) (ea8 : a' 8 = a 8) (ea9 : a' 9 = a 9) (ea10 : a' 10 = a 10) (ea5 : ∀ k, (k ≠ 3 ∧ k ≠ 0) → a' 5 k = a 5 k) (eai : ∀ i, a' (40 + i) = a (40 + i)) (hle : a' 5 3 = 0) (hu : τ 132 25 = nI (a' 5 3)) (hsd : τ 132 8 = nI (a' 5 0)) (hw : ∀ k, k < 30 → τ 136 k = nI (a' 4 k)) : RelM a' τ := by
  obtain ⟨r1, r2, r3, r4, r5, r6, r7, r8, r9⟩ := h
  refine ⟨⟨?_, ?_, ?_, ?_⟩, fun p hp => ⟨?_, ?_, ?_⟩, fun k hk => ?_, ⟨?_, ?_, ?_, ?_, ?_, ?_⟩, fun k hk => ?_, fun i k hi hk => ?_, fun r hr => ⟨?_, fun v hv => ?_⟩, fun r hr => ⟨?_, ?_⟩, fun i hi => ⟨?_, fun h1 k hk => ?_⟩⟩
  · rw [e _ _ (by decide), ea0]; exact r1.1
  · rw [e _ _ (by decide), ea0]; exact r1.2.1
  · rw [e _ _ (by decide), ea0]; exact r1.2.2.1
  · rw [e _ _ (by decide), ea0]; exact r1.2.2.2
  · rw [e _ _ (by simp), ea1]; exact (r2 p (by rw [ea0] at hp; exact hp)).1
  · rw [e _ _ (by simp), ea2]; exact (r2 p (by rw [ea0] at hp; exact hp)).2.1
  · rw [e _ _ (by simp), ea3]; exact (r2 p (by rw [ea0] at hp; exact hp)).2.2
  · exact hw k hk
  · exact hsd
  · rw [e _ _ (by decide), ea5 1 (by decide)]; exact r4.2.1
  · rw [e _ _ (by decide), ea5 2 (by decide)]; exact r4.2.2.1
  · exact hu
  · rw [e _ _ (by decide), ea5 4 (by decide)]; exact r4.2.2.2.2.1
  · rw [e _ _ (by decide), ea5 5 (by decide)]; exact r4.2.2.2.2.2
  · rw [e _ _ (by simp), ea6]; exact r5 k (by rw [ea5 1 (by decide)] at hk; exact hk)
  · omega
  · rw [e _ _ (by simp), ea7]; exact (r7 r (by rw [ea5 4 (by decide)] at hr; exact hr)).1
  · rw [e _ _ (by simp), ea8]; exact (r7 r (by rw [ea5 4 (by decide)] at hr; exact hr)).2 v (by rw [ea0] at hv; exact hv)
  · rw [e _ _ (by simp), ea9]; exact (r8 r (by rw [ea5 5 (by decide)] at hr; exact hr)).1
  · rw [e _ _ (by simp), ea10]; exact (r8 r (by rw [ea5 5 (by decide)] at hr; exact hr)).2
  · rw [e _ _ (by simp), ea5 (6 + i) (by omega)]; exact (r9 i hi).1
  · rw [e _ _ (by simp), eai i]; exact (r9 i hi).2 (by rw [ea5 (6 + i) (by omega)] at h1; exact h1) k hk
theorem relM_ret {a a' : Ab} {σ τ : Sg} (h : RelM a σ) (e : ∀ n k, (n != 145 && n != 146 && !(n == 132 && k == 28)) = true → τ n k = σ n k) (ea0 : a' 0 = a 0) (ea1 : a' 1 = a 1) (ea2 : a' 2 = a 2) (ea3 : a' 3 = a 3) (ea4 : a' 4 = a 4) (ea6 : a' 6 = a 6) (ea9 : a' 9 = a 9) (ea10 : a' 10 = a 10) (ea5 : ∀ k, (k ≠ 4) → a' 5 k = a 5 k) (eap : ∀ i, a' (20 + i) = a (20 + i)) (eai : ∀ i, a' (40 + i) = a (40 + i)) (hu : τ 132 28 = nI (a' 5 4)) (hr1 : ∀ r, r < a' 5 4 → τ 145 r = nI (a' 7 r) ∧ ∀ v, v < a' 0 3 → τ 146 (4 * r + v) = nI (a' 8 (4 * r + v))) : RelM a' τ := by
  obtain ⟨r1, r2, r3, r4, r5, r6, r7, r8, r9⟩ := h
  refine ⟨⟨?_, ?_, ?_, ?_⟩, fun p hp => ⟨?_, ?_, ?_⟩, fun k hk => ?_, ⟨?_, ?_, ?_, ?_, ?_, ?_⟩, fun k hk => ?_, fun i k hi hk => ?_, fun r hr => ⟨?_, fun v hv => ?_⟩, fun r hr => ⟨?_, ?_⟩, fun i hi => ⟨?_, fun h1 k hk => ?_⟩⟩
  · rw [e _ _ (by decide), ea0]; exact r1.1
  · rw [e _ _ (by decide), ea0]; exact r1.2.1
  · rw [e _ _ (by decide), ea0]; exact r1.2.2.1
  · rw [e _ _ (by decide), ea0]; exact r1.2.2.2
  · rw [e _ _ (by simp), ea1]; exact (r2 p (by rw [ea0] at hp; exact hp)).1
  · rw [e _ _ (by simp), ea2]; exact (r2 p (by rw [ea0] at hp; exact hp)).2.1
  · rw [e _ _ (by simp), ea3]; exact (r2 p (by rw [ea0] at hp; exact hp)).2.2
  · rw [e _ _ (by simp), ea4]; exact r3 k hk
  · rw [e _ _ (by decide), ea5 0 (by decide)]; exact r4.1
  · rw [e _ _ (by decide), ea5 1 (by decide)]; exact r4.2.1
  · rw [e _ _ (by decide), ea5 2 (by decide)]; exact r4.2.2.1
  · rw [e _ _ (by decide), ea5 3 (by decide)]; exact r4.2.2.2.1
  · exact hu
  · rw [e _ _ (by decide), ea5 5 (by decide)]; exact r4.2.2.2.2.2
  · rw [e _ _ (by simp), ea6]; exact r5 k (by rw [ea5 1 (by decide)] at hk; exact hk)
  · rw [e _ _ (by simp), eap i]; exact r6 i k (by rw [ea5 3 (by decide)] at hi; exact hi) hk
  · exact (hr1 r hr).1
  · exact (hr1 r hr).2 v hv
  · rw [e _ _ (by simp), ea9]; exact (r8 r (by rw [ea5 5 (by decide)] at hr; exact hr)).1
  · rw [e _ _ (by simp), ea10]; exact (r8 r (by rw [ea5 5 (by decide)] at hr; exact hr)).2
  · rw [e _ _ (by simp), ea5 (6 + i) (by omega)]; exact (r9 i hi).1
  · rw [e _ _ (by simp), eai i]; exact (r9 i hi).2 (by rw [ea5 (6 + i) (by omega)] at h1; exact h1) k hk
theorem relM_book {a a' : Ab} {σ τ : Sg} (h : RelM a σ) (e : ∀ n k, (n != 147 && n != 148 && !(n == 132 && k == 31)) = true → τ n k = σ n k) (ea0 : a' 0 = a 0) (ea1 : a' 1 = a 1) (ea2 : a' 2 = a 2) (ea3 : a' 3 = a 3) (ea4 : a' 4 = a 4) (ea6 : a' 6 = a 6) (ea7 : a' 7 = a 7) (ea8 : a' 8 = a 8)  (ea5 : ∀ k, (k ≠ 5) → a' 5 k = a 5 k) (eap : ∀ i, a' (20 + i) = a (20 + i)) (eai : ∀ i, a' (40 + i) = a (40 + i)) (hu : τ 132 31 = nI (a' 5 5)) (hr1 : ∀ r, r < a' 5 5 → τ 147 r = nI (a' 9 r) ∧ τ 148 r = nI (a' 10 r)) : RelM a' τ := by
  obtain ⟨r1, r2, r3, r4, r5, r6, r7, r8, r9⟩ := h
  refine ⟨⟨?_, ?_, ?_, ?_⟩, fun p hp => ⟨?_, ?_, ?_⟩, fun k hk => ?_, ⟨?_, ?_, ?_, ?_, ?_, ?_⟩, fun k hk => ?_, fun i k hi hk => ?_, fun r hr => ⟨?_, fun v hv => ?_⟩, fun r hr => ⟨?_, ?_⟩, fun i hi => ⟨?_, fun h1 k hk => ?_⟩⟩
  · rw [e _ _ (by decide), ea0]; exact r1.1
  · rw [e _ _ (by decide), ea0]; exact r1.2.1
  · rw [e _ _ (by decide), ea0]; exact r1.2.2.1
  · rw [e _ _ (by decide), ea0]; exact r1.2.2.2
  · rw [e _ _ (by simp), ea1]; exact (r2 p (by rw [ea0] at hp; exact hp)).1
  · rw [e _ _ (by simp), ea2]; exact (r2 p (by rw [ea0] at hp; exact hp)).2.1
  · rw [e _ _ (by simp), ea3]; exact (r2 p (by rw [ea0] at hp; exact hp)).2.2
  · rw [e _ _ (by simp), ea4]; exact r3 k hk
  · rw [e _ _ (by decide), ea5 0 (by decide)]; exact r4.1
  · rw [e _ _ (by decide), ea5 1 (by decide)]; exact r4.2.1
  · rw [e _ _ (by decide), ea5 2 (by decide)]; exact r4.2.2.1
  · rw [e _ _ (by decide), ea5 3 (by decide)]; exact r4.2.2.2.1
  · rw [e _ _ (by decide), ea5 4 (by decide)]; exact r4.2.2.2.2.1
  · exact hu
  · rw [e _ _ (by simp), ea6]; exact r5 k (by rw [ea5 1 (by decide)] at hk; exact hk)
  · rw [e _ _ (by simp), eap i]; exact r6 i k (by rw [ea5 3 (by decide)] at hi; exact hi) hk
  · rw [e _ _ (by simp), ea7]; exact (r7 r (by rw [ea5 4 (by decide)] at hr; exact hr)).1
  · rw [e _ _ (by simp), ea8]; exact (r7 r (by rw [ea5 4 (by decide)] at hr; exact hr)).2 v (by rw [ea0] at hv; exact hv)
  · exact (hr1 r hr).1
  · exact (hr1 r hr).2
  · rw [e _ _ (by simp), ea5 (6 + i) (by omega)]; exact (r9 i hi).1
  · rw [e _ _ (by simp), eai i]; exact (r9 i hi).2 (by rw [ea5 (6 + i) (by omega)] at h1; exact h1) k hk
theorem relM_tear {a a' : Ab} {σ τ : Sg} (h : RelM a σ) (e : ∀ n k, (!(n == 132 && k == 31) && !(n == 132 && k == 28)) = true → τ n k = σ n k) (ea0 : a' 0 = a 0) (ea1 : a' 1 = a 1) (ea2 : a' 2 = a 2) (ea3 : a' 3 = a 3) (ea4 : a' 4 = a 4) (ea6 : a' 6 = a 6) (ea7 : a' 7 = a 7) (ea8 : a' 8 = a 8) (ea9 : a' 9 = a 9) (ea10 : a' 10 = a 10) (ea5 : ∀ k, (k ≠ 5 ∧ k ≠ 4) → a' 5 k = a 5 k) (eap : ∀ i, a' (20 + i) = a (20 + i)) (eai : ∀ i, a' (40 + i) = a (40 + i)) (h4 : a' 5 4 = 0) (h5 : a' 5 5 = 0) (hu : τ 132 31 = nI (a' 5 5)) (hu4 : τ 132 28 = nI (a' 5 4)) : RelM a' τ := by
  obtain ⟨r1, r2, r3, r4, r5, r6, r7, r8, r9⟩ := h
  refine ⟨⟨?_, ?_, ?_, ?_⟩, fun p hp => ⟨?_, ?_, ?_⟩, fun k hk => ?_, ⟨?_, ?_, ?_, ?_, ?_, ?_⟩, fun k hk => ?_, fun i k hi hk => ?_, fun r hr => ⟨?_, fun v hv => ?_⟩, fun r hr => ⟨?_, ?_⟩, fun i hi => ⟨?_, fun h1 k hk => ?_⟩⟩
  · rw [e _ _ (by decide), ea0]; exact r1.1
  · rw [e _ _ (by decide), ea0]; exact r1.2.1
  · rw [e _ _ (by decide), ea0]; exact r1.2.2.1
  · rw [e _ _ (by decide), ea0]; exact r1.2.2.2
  · rw [e _ _ (by simp), ea1]; exact (r2 p (by rw [ea0] at hp; exact hp)).1
  · rw [e _ _ (by simp), ea2]; exact (r2 p (by rw [ea0] at hp; exact hp)).2.1
  · rw [e _ _ (by simp), ea3]; exact (r2 p (by rw [ea0] at hp; exact hp)).2.2
  · rw [e _ _ (by simp), ea4]; exact r3 k hk
  · rw [e _ _ (by decide), ea5 0 (by decide)]; exact r4.1
  · rw [e _ _ (by decide), ea5 1 (by decide)]; exact r4.2.1
  · rw [e _ _ (by decide), ea5 2 (by decide)]; exact r4.2.2.1
  · rw [e _ _ (by decide), ea5 3 (by decide)]; exact r4.2.2.2.1
  · exact hu4
  · exact hu
  · rw [e _ _ (by simp), ea6]; exact r5 k (by rw [ea5 1 (by decide)] at hk; exact hk)
  · rw [e _ _ (by simp), eap i]; exact r6 i k (by rw [ea5 3 (by decide)] at hi; exact hi) hk
  · omega
  · omega
  · omega
  · omega
  · rw [e _ _ (by simp), ea5 (6 + i) (by omega)]; exact (r9 i hi).1
  · rw [e _ _ (by simp), eai i]; exact (r9 i hi).2 (by rw [ea5 (6 + i) (by omega)] at h1; exact h1) k hk
theorem relM_seed {a a' : Ab} {σ τ : Sg} (h : RelM a σ) (e : ∀ n k, (!(n == 132 && k == 8)) = true → τ n k = σ n k) (ea0 : a' 0 = a 0) (ea1 : a' 1 = a 1) (ea2 : a' 2 = a 2) (ea3 : a' 3 = a 3) (ea4 : a' 4 = a 4) (ea6 : a' 6 = a 6) (ea7 : a' 7 = a 7) (ea8 : a' 8 = a 8) (ea9 : a' 9 = a 9) (ea10 : a' 10 = a 10) (ea5 : ∀ k, (k ≠ 0) → a' 5 k = a 5 k) (eap : ∀ i, a' (20 + i) = a (20 + i)) (eai : ∀ i, a' (40 + i) = a (40 + i)) (hu : τ 132 8 = nI (a' 5 0)) : RelM a' τ := by
  obtain ⟨r1, r2, r3, r4, r5, r6, r7, r8, r9⟩ := h
  refine ⟨⟨?_, ?_, ?_, ?_⟩, fun p hp => ⟨?_, ?_, ?_⟩, fun k hk => ?_, ⟨?_, ?_, ?_, ?_, ?_, ?_⟩, fun k hk => ?_, fun i k hi hk => ?_, fun r hr => ⟨?_, fun v hv => ?_⟩, fun r hr => ⟨?_, ?_⟩, fun i hi => ⟨?_, fun h1 k hk => ?_⟩⟩
  · rw [e _ _ (by decide), ea0]; exact r1.1
  · rw [e _ _ (by decide), ea0]; exact r1.2.1
  · rw [e _ _ (by decide), ea0]; exact r1.2.2.1
  · rw [e _ _ (by decide), ea0]; exact r1.2.2.2
  · rw [e _ _ (by simp), ea1]; exact (r2 p (by rw [ea0] at hp; exact hp)).1
  · rw [e _ _ (by simp), ea2]; exact (r2 p (by rw [ea0] at hp; exact hp)).2.1
  · rw [e _ _ (by simp), ea3]; exact (r2 p (by rw [ea0] at hp; exact hp)).2.2
  · rw [e _ _ (by simp), ea4]; exact r3 k hk
  · exact hu
  · rw [e _ _ (by decide), ea5 1 (by decide)]; exact r4.2.1
  · rw [e _ _ (by decide), ea5 2 (by decide)]; exact r4.2.2.1
  · rw [e _ _ (by decide), ea5 3 (by decide)]; exact r4.2.2.2.1
  · rw [e _ _ (by decide), ea5 4 (by decide)]; exact r4.2.2.2.2.1
  · rw [e _ _ (by decide), ea5 5 (by decide)]; exact r4.2.2.2.2.2
  · rw [e _ _ (by simp), ea6]; exact r5 k (by rw [ea5 1 (by decide)] at hk; exact hk)
  · rw [e _ _ (by simp), eap i]; exact r6 i k (by rw [ea5 3 (by decide)] at hi; exact hi) hk
  · rw [e _ _ (by simp), ea7]; exact (r7 r (by rw [ea5 4 (by decide)] at hr; exact hr)).1
  · rw [e _ _ (by simp), ea8]; exact (r7 r (by rw [ea5 4 (by decide)] at hr; exact hr)).2 v (by rw [ea0] at hv; exact hv)
  · rw [e _ _ (by simp), ea9]; exact (r8 r (by rw [ea5 5 (by decide)] at hr; exact hr)).1
  · rw [e _ _ (by simp), ea10]; exact (r8 r (by rw [ea5 5 (by decide)] at hr; exact hr)).2
  · rw [e _ _ (by simp), ea5 (6 + i) (by omega)]; exact (r9 i hi).1
  · rw [e _ _ (by simp), eai i]; exact (r9 i hi).2 (by rw [ea5 (6 + i) (by omega)] at h1; exact h1) k hk
theorem relM_feed {a a' : Ab} {σ τ : Sg} (h : RelM a σ) (e : ∀ n k, (n != 137 && !(n == 132 && k == 10)) = true → τ n k = σ n k) (ea0 : a' 0 = a 0) (ea1 : a' 1 = a 1) (ea2 : a' 2 = a 2) (ea3 : a' 3 = a 3) (ea4 : a' 4 = a 4) (ea7 : a' 7 = a 7) (ea8 : a' 8 = a 8) (ea9 : a' 9 = a 9) (ea10 : a' 10 = a 10) (ea5 : ∀ k, (k ≠ 1) → a' 5 k = a 5 k) (eap : ∀ i, a' (20 + i) = a (20 + i)) (eai : ∀ i, a' (40 + i) = a (40 + i)) (hu : τ 132 10 = nI (a' 5 1)) (ht : ∀ k, k < a' 5 1 → τ 137 k = nI (a' 6 k)) : RelM a' τ := by
  obtain ⟨r1, r2, r3, r4, r5, r6, r7, r8, r9⟩ := h
  refine ⟨⟨?_, ?_, ?_, ?_⟩, fun p hp => ⟨?_, ?_, ?_⟩, fun k hk => ?_, ⟨?_, ?_, ?_, ?_, ?_, ?_⟩, fun k hk => ?_, fun i k hi hk => ?_, fun r hr => ⟨?_, fun v hv => ?_⟩, fun r hr => ⟨?_, ?_⟩, fun i hi => ⟨?_, fun h1 k hk => ?_⟩⟩
  · rw [e _ _ (by decide), ea0]; exact r1.1
  · rw [e _ _ (by decide), ea0]; exact r1.2.1
  · rw [e _ _ (by decide), ea0]; exact r1.2.2.1
  · rw [e _ _ (by decide), ea0]; exact r1.2.2.2
  · rw [e _ _ (by simp), ea1]; exact (r2 p (by rw [ea0] at hp; exact hp)).1
  · rw [e _ _ (by simp), ea2]; exact (r2 p (by rw [ea0] at hp; exact hp)).2.1
  · rw [e _ _ (by simp), ea3]; exact (r2 p (by rw [ea0] at hp; exact hp)).2.2
  · rw [e _ _ (by simp), ea4]; exact r3 k hk
  · rw [e _ _ (by decide), ea5 0 (by decide)]; exact r4.1
  · exact hu
  · rw [e _ _ (by decide), ea5 2 (by decide)]; exact r4.2.2.1
  · rw [e _ _ (by decide), ea5 3 (by decide)]; exact r4.2.2.2.1
  · rw [e _ _ (by decide), ea5 4 (by decide)]; exact r4.2.2.2.2.1
  · rw [e _ _ (by decide), ea5 5 (by decide)]; exact r4.2.2.2.2.2
  · exact ht k hk
  · rw [e _ _ (by simp), eap i]; exact r6 i k (by rw [ea5 3 (by decide)] at hi; exact hi) hk
  · rw [e _ _ (by simp), ea7]; exact (r7 r (by rw [ea5 4 (by decide)] at hr; exact hr)).1
  · rw [e _ _ (by simp), ea8]; exact (r7 r (by rw [ea5 4 (by decide)] at hr; exact hr)).2 v (by rw [ea0] at hv; exact hv)
  · rw [e _ _ (by simp), ea9]; exact (r8 r (by rw [ea5 5 (by decide)] at hr; exact hr)).1
  · rw [e _ _ (by simp), ea10]; exact (r8 r (by rw [ea5 5 (by decide)] at hr; exact hr)).2
  · rw [e _ _ (by simp), ea5 (6 + i) (by omega)]; exact (r9 i hi).1
  · rw [e _ _ (by simp), eai i]; exact (r9 i hi).2 (by rw [ea5 (6 + i) (by omega)] at h1; exact h1) k hk
