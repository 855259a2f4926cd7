/-! the reference: what is done -/
/-- a stretch of a row written: place B + i has g i -/
def cpr (σ : Sg) (R B i : Nat) (g : Nat → Int32) : Sg := fun n k => if n = R ∧ B ≤ k ∧ k < B + i then g (k - B) else σ n k
theorem cpr_0 (σ : Sg) (R B : Nat) (g : Nat → Int32) : cpr σ R B 0 g = σ := by
  funext n k
  unfold cpr
  rw [if_neg (by omega)]
theorem cpr_st (σ : Sg) (R B i : Nat) (g : Nat → Int32) : st (cpr σ R B i g) R (B + i) (g i) = cpr σ R B (i + 1) g := by
  funext m j
  rw [st_eq]
  unfold cpr
  by_cases q : m = R ∧ j = B + i
  · rw [if_pos q, if_pos ⟨q.1, by omega, by omega⟩, q.2, Nat.add_sub_cancel_left]
  · rw [if_neg q]
    by_cases z : m = R ∧ B ≤ j ∧ j < B + i
    · rw [if_pos z, if_pos ⟨z.1, by omega, by omega⟩]
    · rw [if_neg z, if_neg (fun y => z ⟨y.1, y.2.1, by
        rcases Nat.lt_or_ge j (B + i) with u | u
        · exact u
        · exact absurd ⟨y.1, by omega⟩ q⟩)]
theorem cpr_ne (σ : Sg) {R : Nat} (B i : Nat) (g : Nat → Int32) {n : Nat} (h : n ≠ R) (k : Nat) : cpr σ R B i g n k = σ n k := by
  unfold cpr
  rw [if_neg (fun y => h y.1)]
theorem cpr_out (σ : Sg) (R : Nat) {B i : Nat} (g : Nat → Int32) {k : Nat} (h : k < B ∨ B + i ≤ k) : cpr σ R B i g R k = σ R k := by
  unfold cpr
  rw [if_neg (by omega)]
theorem cpr_in (σ : Sg) (R : Nat) {B i : Nat} (g : Nat → Int32) {k : Nat} (h : k < i) : cpr σ R B i g R (B + k) = g k := by
  unfold cpr
  rw [if_pos ⟨rfl, by omega, by omega⟩, Nat.add_sub_cancel_left]
/-- the class's cells stay -/
def Fr (σ τ : Sg) : Prop := ∀ n, n < 132 → τ n = σ n
theorem Fr.rf (σ : Sg) : Fr σ σ := fun _ _ => rfl
theorem Fr.tr {σ τ υ : Sg} (h : Fr σ τ) (h2 : Fr τ υ) : Fr σ υ := fun n hn => (h2 n hn).trans (h n hn)
theorem Fr.of {σ τ : Sg} (h : Sm σ τ) : Fr σ τ := fun n hn => by
  funext k
  exact h n k (by simp [scM]; omega)
theorem fr_st {σ : Sg} {n k : Nat} {v : Int32} (h : 132 ≤ n) : Fr σ (st σ n k v) := fun m hm => st_ne (by omega)
theorem fr_wr (σ : Sg) (r : Nat) (w : Nat → Nat) : Fr σ (wr σ r w) := fun m hm => by
  funext k
  exact wr_ne σ r w (by omega) k
theorem fr_cpr (σ : Sg) {R : Nat} (B i : Nat) (g : Nat → Int32) (h : 132 ≤ R) : Fr σ (cpr σ R B i g) := fun m hm => by
  funext k
  exact cpr_ne σ B i g (by omega) k
theorem wr_at0 (σ : Sg) (w : Nat → Nat) {k : Nat} (hk : k < 30) : wr σ 0 w 136 k = nI (w k) := by
  have := wr_at σ 0 w hk
  rw [Nat.zero_add] at this
  exact this
theorem wr_st0 (σ : Sg) (w : Nat → Nat) {k : Nat} (hk : k < 30) (v : Nat) : st (wr σ 0 w) 136 k (nI v) = wr σ 0 (va_up w k v) := by
  have := wr_st σ 0 w hk v
  rw [Nat.zero_add] at this
  exact this
theorem wr_wr (σ : Sg) (r : Nat) (w w' : Nat → Nat) : wr (wr σ r w) r w' = wr σ r w' := by
  funext n k
  unfold wr
  by_cases q : n = 136 ∧ r ≤ k ∧ k < r + 30
  · rw [if_pos q, if_pos q]
  · rw [if_neg q, if_neg q, if_neg q]
theorem wr_stc (σ : Sg) (w : Nat → Nat) (n k : Nat) (v : Int32) (h : n ≠ 136) : st (wr σ 0 w) n k v = wr (st σ n k v) 0 w := by
  funext m j
  rw [st_eq]
  unfold wr
  rw [st_eq]
  by_cases q : m = n ∧ j = k
  · rw [if_pos q, if_pos q, if_neg (fun y => h (q.1.symm.trans y.1))]
  · rw [if_neg q, if_neg q]
/-- another state's row -/
theorem relM_w {a : Ab} {σ : Sg} (h : RelM a σ) (w : Nat → Nat) : RelM (va_up a 4 w) (wr σ 0 w) := by
  obtain ⟨r1, r2, r3, r4, r5, r6, r7, r8, r9⟩ := h
  have e : ∀ n k, n ≠ 136 → wr σ 0 w n k = σ n k := fun n k hn => wr_ne σ 0 w hn k
  refine ⟨⟨?_, ?_, ?_, ?_⟩, fun p hp => ⟨?_, ?_, ?_⟩, fun k hk => ?_, ⟨?_, ?_, ?_, ?_, ?_, ?_⟩, fun k hk => ?_, fun i k hi hk => ?_, fun r hr => ⟨?_, fun v hv => ?_⟩, fun r hr => ⟨?_, ?_⟩, fun i hi => ⟨?_, fun h1 k hk => ?_⟩⟩
  · rw [e _ _ (by omega)]; exact r1.1
  · rw [e _ _ (by omega)]; exact r1.2.1
  · rw [e _ _ (by omega)]; exact r1.2.2.1
  · rw [e _ _ (by omega)]; exact r1.2.2.2
  · rw [e _ _ (by omega)]; exact (r2 p hp).1
  · rw [e _ _ (by omega)]; exact (r2 p hp).2.1
  · rw [e _ _ (by omega)]; exact (r2 p hp).2.2
  · exact wr_at0 σ w hk
  · rw [e _ _ (by omega)]; exact r4.1
  · rw [e _ _ (by omega)]; exact r4.2.1
  · rw [e _ _ (by omega)]; exact r4.2.2.1
  · rw [e _ _ (by omega)]; exact r4.2.2.2.1
  · rw [e _ _ (by omega)]; exact r4.2.2.2.2.1
  · rw [e _ _ (by omega)]; exact r4.2.2.2.2.2
  · rw [e _ _ (by omega)]; exact r5 k hk
  · rw [e _ _ (by omega), va_up_ne _ _ (by omega)]; exact r6 i k hi hk
  · rw [e _ _ (by omega)]; exact (r7 r hr).1
  · rw [e _ _ (by omega)]; exact (r7 r hr).2 v hv
  · rw [e _ _ (by omega)]; exact (r8 r hr).1
  · rw [e _ _ (by omega)]; exact (r8 r hr).2
  · rw [e _ _ (by omega)]; exact (r9 i hi).1
  · rw [e _ _ (by omega), va_up_ne _ _ (by omega)]; exact (r9 i hi).2 h1 k hk
theorem gb_row4 {a : Ab} (g : Gb a) {w : Nat → Nat} (hw : Wb (a 0 1) (a 0 3) (a 0 4) w) : Gb (va_up a 4 w) := by
  obtain ⟨g1, g2, g3, g4, g5, g6, g7, g8, g9⟩ := g
  refine ⟨g1, g2, hw, g4, g5, fun i hi => ?_, g7, g8, fun i hi => ⟨(g9 i hi).1, fun h1 => ?_⟩⟩
  · have e : va_up a 4 w (20 + i) = a (20 + i) := va_up_ne _ _ (by omega)
    rw [e]; exact g6 i hi
  · have e : va_up a 4 w (40 + i) = a (40 + i) := va_up_ne _ _ (by omega)
    rw [e]; exact (g9 i hi).2 h1
/-- told -/
def telW (w : Nat → Nat) (p n : Nat) : Nat → Nat := va_up (va_up w (12 + p) n) 4 (ins (w 4) p)
theorem mTells {a : Ab} {σ : Sg} (h : RelM a σ) (g : Gb a) {p n : Nat} (hp : p < a 0 4) (hn : n ≤ 99) : fX12_tells σ (nI p) (nI n) = some (nI (a 4 (12 + p)), wr σ 0 (telW (a 4) p n)) := by
  have hP := gb_P g
  have hs := (wc_set (gb_w g) hP).2
  unfold fX12_tells telW
  rw [← wr_self h]
  generalize a 4 = w at hs ⊢
  have e4 : va_up w (12 + p) n 4 = w 4 := va_up_ne _ _ (by omega)
  simp (disch := omega) only [lt_eq, bi_some, bv_some, ↓lim1, pk_m1f, fI_add1, li0, li1, li2, li3, li4, li5, li6, li7, li8, li9, li10, li12, li15, li16, li19, li20, li26, li30, li31, li32, li48, li57, li59, li60, li64, li99, li100, li128, li240, li255, li480, li999, li1000, li9000, li9999, liF, nI_add, sb_nI, pk_mul, dv_nI, cl_nI, inbT, le_nI, lt_nI, eq_nI, fI_le, fI_eq, st_ne, st_at, iT, iF, Nat.zero_add, Nat.add_zero, not_true_eq_false, not_false_eq_true, true_and, and_true, false_and, and_false, or_true, true_or, or_false, false_or, Nat.reduceEqDiff, Nat.reduceLeDiff, Nat.reduceLT, Nat.reduceAdd, Nat.reduceSub, Nat.reduceMul, Nat.reduceDiv, Nat.reduceMod, ↓reduceIte, wr_at0, wr_st0, e4]
  rw [← li31, ← li1, ins_nI hs (by omega)]
  simp (disch := omega) only [lt_eq, bi_some, bv_some, ↓lim1, pk_m1f, fI_add1, li0, li1, li2, li3, li4, li5, li6, li7, li8, li9, li10, li12, li15, li16, li19, li20, li26, li30, li31, li32, li48, li57, li59, li60, li64, li99, li100, li128, li240, li255, li480, li999, li1000, li9000, li9999, liF, nI_add, sb_nI, pk_mul, dv_nI, cl_nI, inbT, le_nI, lt_nI, eq_nI, fI_le, fI_eq, st_ne, st_at, iT, iF, Nat.zero_add, Nat.add_zero, not_true_eq_false, not_false_eq_true, true_and, and_true, false_and, and_false, or_true, true_or, or_false, false_or, Nat.reduceEqDiff, Nat.reduceLeDiff, Nat.reduceLT, Nat.reduceAdd, Nat.reduceSub, Nat.reduceMul, Nat.reduceDiv, Nat.reduceMod, ↓reduceIte, wr_st0, wr_wr]
theorem ins_pow {s P p : Nat} (hs : s < 2 ^ P) (hp : p < P) (hP : P ≤ 7) : ins s p < 2 ^ P := by
  have key : ∀ P : Fin 8, ∀ s : Fin 128, ∀ p : Fin 7, s.val < 2 ^ P.val → p.val < P.val → ins s.val p.val < 2 ^ P.val := by decide +kernel
  exact key ⟨P, by omega⟩ ⟨s, by have := two_pow hP; omega⟩ ⟨p, by omega⟩ hs hp
theorem Wc.tel {p0 V P : Nat} {w : Nat → Nat} (hw : Wc p0 V P w) (hP : P ≤ 7) (hV : V ≤ 4) {p n : Nat} (hp : p < P) (hn : n ≤ 99) : Wc p0 V P (telW w p n) :=
  (hw.fate hP hV hp hn).told hP hV (ins_pow hw.1.2.2.2.2.2 hp hP)
/-- who may go up for whom -/
theorem mMayGo {a : Ab} {σ : Sg} (h : RelM a σ) (g : Gb a) {p q : Nat} (hp : p < a 0 4) (hq : q < a 0 4) : fX12_mayGo σ (nI p) (nI q) = some (nI (if 0 < a 4 (12 + p) ∧ bt (a 4 3) q = 0 then 1 else 0), σ) := by
  have hP := gb_P g
  have hs := (wc_set (gb_w g) hP).1
  have hf := wc_fate (gb_w g) hp
  unfold fX12_mayGo fX12_mayGo_29
  simp (disch := omega) only [lt_eq, bi_some, bv_some, ↓lim1, pk_m1f, fI_add1, li0, li1, li2, li3, li4, li5, li6, li7, li8, li9, li10, li12, li15, li16, li19, li20, li26, li30, li31, li32, li48, li57, li59, li60, li64, li99, li100, li128, li240, li255, li480, li999, li1000, li9000, li9999, liF, nI_add, sb_nI, pk_mul, dv_nI, cl_nI, inbT, le_nI, lt_nI, eq_nI, fI_le, fI_eq, st_ne, st_at, iT, iF, Nat.zero_add, Nat.add_zero, not_true_eq_false, not_false_eq_true, true_and, and_true, false_and, and_false, or_true, true_or, or_false, false_or, Nat.reduceEqDiff, Nat.reduceLeDiff, Nat.reduceLT, Nat.reduceAdd, Nat.reduceSub, Nat.reduceMul, Nat.reduceDiv, Nat.reduceMod, ↓reduceIte, rm_w h, has_spec σ hs (show q < 7 by omega)]
  by_cases z : 0 < a 4 (12 + p)
  · simp (disch := omega) only [lt_eq, bi_some, bv_some, ↓lim1, pk_m1f, fI_add1, li0, li1, li2, li3, li4, li5, li6, li7, li8, li9, li10, li12, li15, li16, li19, li20, li26, li30, li31, li32, li48, li57, li59, li60, li64, li99, li100, li128, li240, li255, li480, li999, li1000, li9000, li9999, liF, nI_add, sb_nI, pk_mul, dv_nI, cl_nI, inbT, le_nI, lt_nI, eq_nI, fI_le, fI_eq, st_ne, st_at, iT, iF, Nat.zero_add, Nat.add_zero, not_true_eq_false, not_false_eq_true, true_and, and_true, false_and, and_false, or_true, true_or, or_false, false_or, Nat.reduceEqDiff, Nat.reduceLeDiff, Nat.reduceLT, Nat.reduceAdd, Nat.reduceSub, Nat.reduceMul, Nat.reduceDiv, Nat.reduceMod, ↓reduceIte, show ¬ a 4 (12 + p) ≤ 0 by omega, z]
    rcases bt_01 (a 4 3) q with y | y
    · simp (disch := omega) only [lt_eq, bi_some, bv_some, ↓lim1, pk_m1f, fI_add1, li0, li1, li2, li3, li4, li5, li6, li7, li8, li9, li10, li12, li15, li16, li19, li20, li26, li30, li31, li32, li48, li57, li59, li60, li64, li99, li100, li128, li240, li255, li480, li999, li1000, li9000, li9999, liF, nI_add, sb_nI, pk_mul, dv_nI, cl_nI, inbT, le_nI, lt_nI, eq_nI, fI_le, fI_eq, st_ne, st_at, iT, iF, Nat.zero_add, Nat.add_zero, not_true_eq_false, not_false_eq_true, true_and, and_true, false_and, and_false, or_true, true_or, or_false, false_or, Nat.reduceEqDiff, Nat.reduceLeDiff, Nat.reduceLT, Nat.reduceAdd, Nat.reduceSub, Nat.reduceMul, Nat.reduceDiv, Nat.reduceMod, ↓reduceIte, y]
    · simp (disch := omega) only [lt_eq, bi_some, bv_some, ↓lim1, pk_m1f, fI_add1, li0, li1, li2, li3, li4, li5, li6, li7, li8, li9, li10, li12, li15, li16, li19, li20, li26, li30, li31, li32, li48, li57, li59, li60, li64, li99, li100, li128, li240, li255, li480, li999, li1000, li9000, li9999, liF, nI_add, sb_nI, pk_mul, dv_nI, cl_nI, inbT, le_nI, lt_nI, eq_nI, fI_le, fI_eq, st_ne, st_at, iT, iF, Nat.zero_add, Nat.add_zero, not_true_eq_false, not_false_eq_true, true_and, and_true, false_and, and_false, or_true, true_or, or_false, false_or, Nat.reduceEqDiff, Nat.reduceLeDiff, Nat.reduceLT, Nat.reduceAdd, Nat.reduceSub, Nat.reduceMul, Nat.reduceDiv, Nat.reduceMod, ↓reduceIte, y]
  · simp (disch := omega) only [lt_eq, bi_some, bv_some, ↓lim1, pk_m1f, fI_add1, li0, li1, li2, li3, li4, li5, li6, li7, li8, li9, li10, li12, li15, li16, li19, li20, li26, li30, li31, li32, li48, li57, li59, li60, li64, li99, li100, li128, li240, li255, li480, li999, li1000, li9000, li9999, liF, nI_add, sb_nI, pk_mul, dv_nI, cl_nI, inbT, le_nI, lt_nI, eq_nI, fI_le, fI_eq, st_ne, st_at, iT, iF, Nat.zero_add, Nat.add_zero, not_true_eq_false, not_false_eq_true, true_and, and_true, false_and, and_false, or_true, true_or, or_false, false_or, Nat.reduceEqDiff, Nat.reduceLeDiff, Nat.reduceLT, Nat.reduceAdd, Nat.reduceSub, Nat.reduceMul, Nat.reduceDiv, Nat.reduceMod, ↓reduceIte, show a 4 (12 + p) ≤ 0 by omega, z]
/-- answered back: the row then, l of its fate being left -/
def ansW (w : Nat → Nat) (p q l : Nat) : Nat → Nat := va_up (va_up (va_up (va_up w (12 + p) l) 2 (if w 2 + (w (12 + p) - l) ≤ 9999 then w 2 + (w (12 + p) - l) else 9999)) 0 (if w 0 ≤ 1 then w 0 else w 0 - 1)) 3 (ins (w 3) q)
theorem mAnswers {a : Ab} {σ : Sg} (h : RelM a σ) (g : Gb a) {p q : Nat} (hp : p < a 0 4) (hq : q < a 0 4) : ∃ τ, fX12_answers σ (nI p) (nI q) = some (wr τ 0 (ansW (a 4) p q (brg a q (a 4 (12 + p))).1)) ∧ Sm σ τ := by
  have hP := gb_P g
  have hs := (wc_set (gb_w g) hP).1
  have hf := wc_fate (gb_w g) hp
  have ho := wc_owed (gb_w g)
  have hp0 := wc_pat (gb_w g)
  have hl := (brg_le g (p := q) hf).1
  have hb := barg_spec h g hq hf
  refine ⟨st σ 132 23 (nI (brg a q (a 4 (12 + p))).2), ?_, sm_turn _⟩
  unfold fX12_answers ansW
  simp (disch := omega) only [lt_eq, bi_some, bv_some, ↓lim1, pk_m1f, fI_add1, li0, li1, li2, li3, li4, li5, li6, li7, li8, li9, li10, li12, li15, li16, li19, li20, li26, li30, li31, li32, li48, li57, li59, li60, li64, li99, li100, li128, li240, li255, li480, li999, li1000, li9000, li9999, liF, nI_add, sb_nI, pk_mul, dv_nI, cl_nI, inbT, le_nI, lt_nI, eq_nI, fI_le, fI_eq, st_ne, st_at, iT, iF, Nat.zero_add, Nat.add_zero, not_true_eq_false, not_false_eq_true, true_and, and_true, false_and, and_false, or_true, true_or, or_false, false_or, Nat.reduceEqDiff, Nat.reduceLeDiff, Nat.reduceLT, Nat.reduceAdd, Nat.reduceSub, Nat.reduceMul, Nat.reduceDiv, Nat.reduceMod, ↓reduceIte, rm_w h, hb]
  generalize (brg a q (a 4 (12 + p))).2 = T
  generalize (brg a q (a 4 (12 + p))).1 = L at hl ⊢
  have h2 : RelM a (st σ 132 23 (nI T)) := (sm_turn _).rel h
  rw [← wr_self h2]
  generalize st σ 132 23 (nI T) = τ
  generalize a 4 = w at hs hf ho hp0 ⊢
  have e2 : va_up w (12 + p) L 2 = w 2 := va_up_ne _ _ (by omega)
  have e0 : ∀ x, va_up (va_up w (12 + p) L) 2 x 0 = w 0 := fun x => by rw [va_up_ne _ _ (by omega), va_up_ne _ _ (by omega)]
  have e3 : ∀ x y, va_up (va_up (va_up w (12 + p) L) 2 x) 0 y 3 = w 3 := fun x y => by rw [va_up_ne _ _ (by omega), va_up_ne _ _ (by omega), va_up_ne _ _ (by omega)]
  have k96 : ∀ x y, fX12_answers_96 (wr τ 0 (va_up (va_up w (12 + p) L) 2 x)) (nI q) (nI y) (nI (w 0)) 0 = (if y ≤ w 0 then some (wr τ 0 (va_up (va_up (va_up (va_up w (12 + p) L) 2 x) 0 (w 0 - y)) 3 (ins (w 3) q))) else fX12_answers_96 (wr τ 0 (va_up (va_up w (12 + p) L) 2 x)) (nI q) (nI y) (nI (w 0)) 0) := by
    intro x y
    by_cases z : y ≤ w 0
    · rw [if_pos z]
      unfold fX12_answers_96
      simp (disch := omega) only [lt_eq, bi_some, bv_some, ↓lim1, pk_m1f, fI_add1, li0, li1, li2, li3, li4, li5, li6, li7, li8, li9, li10, li12, li15, li16, li19, li20, li26, li30, li31, li32, li48, li57, li59, li60, li64, li99, li100, li128, li240, li255, li480, li999, li1000, li9000, li9999, liF, nI_add, sb_nI, pk_mul, dv_nI, cl_nI, inbT, le_nI, lt_nI, eq_nI, fI_le, fI_eq, st_ne, st_at, iT, iF, Nat.zero_add, Nat.add_zero, not_true_eq_false, not_false_eq_true, true_and, and_true, false_and, and_false, or_true, true_or, or_false, false_or, Nat.reduceEqDiff, Nat.reduceLeDiff, Nat.reduceLT, Nat.reduceAdd, Nat.reduceSub, Nat.reduceMul, Nat.reduceDiv, Nat.reduceMod, ↓reduceIte, wr_st0, wr_at0, e3]
      rw [← li31, ← li1, ins_nI hs (by omega)]
      simp (disch := omega) only [lt_eq, bi_some, bv_some, ↓lim1, pk_m1f, fI_add1, li0, li1, li2, li3, li4, li5, li6, li7, li8, li9, li10, li12, li15, li16, li19, li20, li26, li30, li31, li32, li48, li57, li59, li60, li64, li99, li100, li128, li240, li255, li480, li999, li1000, li9000, li9999, liF, nI_add, sb_nI, pk_mul, dv_nI, cl_nI, inbT, le_nI, lt_nI, eq_nI, fI_le, fI_eq, st_ne, st_at, iT, iF, Nat.zero_add, Nat.add_zero, not_true_eq_false, not_false_eq_true, true_and, and_true, false_and, and_false, or_true, true_or, or_false, false_or, Nat.reduceEqDiff, Nat.reduceLeDiff, Nat.reduceLT, Nat.reduceAdd, Nat.reduceSub, Nat.reduceMul, Nat.reduceDiv, Nat.reduceMod, ↓reduceIte, wr_st0]
    · rw [if_neg z]
  have k73 : ∀ x, x ≤ 9999 → fX12_answers_73 (wr τ 0 (va_up w (12 + p) L)) (nI q) (nI x) 2 = some (wr τ 0 (va_up (va_up (va_up (va_up w (12 + p) L) 2 x) 0 (if w 0 ≤ 1 then w 0 else w 0 - 1)) 3 (ins (w 3) q))) := by
    intro x hx
    have k0 := k96 x 0
    have k1 := k96 x 1
    rw [li0] at k0 k1
    unfold fX12_answers_73
    simp (disch := omega) only [lt_eq, bi_some, bv_some, ↓lim1, pk_m1f, fI_add1, li0, li1, li2, li3, li4, li5, li6, li7, li8, li9, li10, li12, li15, li16, li19, li20, li26, li30, li31, li32, li48, li57, li59, li60, li64, li99, li100, li128, li240, li255, li480, li999, li1000, li9000, li9999, liF, nI_add, sb_nI, pk_mul, dv_nI, cl_nI, inbT, le_nI, lt_nI, eq_nI, fI_le, fI_eq, st_ne, st_at, iT, iF, Nat.zero_add, Nat.add_zero, not_true_eq_false, not_false_eq_true, true_and, and_true, false_and, and_false, or_true, true_or, or_false, false_or, Nat.reduceEqDiff, Nat.reduceLeDiff, Nat.reduceLT, Nat.reduceAdd, Nat.reduceSub, Nat.reduceMul, Nat.reduceDiv, Nat.reduceMod, ↓reduceIte, wr_st0, wr_at0, e0]
    by_cases z : w 0 ≤ 1
    · simp (disch := omega) only [lt_eq, bi_some, bv_some, ↓lim1, pk_m1f, fI_add1, li0, li1, li2, li3, li4, li5, li6, li7, li8, li9, li10, li12, li15, li16, li19, li20, li26, li30, li31, li32, li48, li57, li59, li60, li64, li99, li100, li128, li240, li255, li480, li999, li1000, li9000, li9999, liF, nI_add, sb_nI, pk_mul, dv_nI, cl_nI, inbT, le_nI, lt_nI, eq_nI, fI_le, fI_eq, st_ne, st_at, iT, iF, Nat.zero_add, Nat.add_zero, not_true_eq_false, not_false_eq_true, true_and, and_true, false_and, and_false, or_true, true_or, or_false, false_or, Nat.reduceEqDiff, Nat.reduceLeDiff, Nat.reduceLT, Nat.reduceAdd, Nat.reduceSub, Nat.reduceMul, Nat.reduceDiv, Nat.reduceMod, ↓reduceIte, z]
      rw [k0, if_pos (by omega), Nat.sub_zero]
    · simp (disch := omega) only [lt_eq, bi_some, bv_some, ↓lim1, pk_m1f, fI_add1, li0, li1, li2, li3, li4, li5, li6, li7, li8, li9, li10, li12, li15, li16, li19, li20, li26, li30, li31, li32, li48, li57, li59, li60, li64, li99, li100, li128, li240, li255, li480, li999, li1000, li9000, li9999, liF, nI_add, sb_nI, pk_mul, dv_nI, cl_nI, inbT, le_nI, lt_nI, eq_nI, fI_le, fI_eq, st_ne, st_at, iT, iF, Nat.zero_add, Nat.add_zero, not_true_eq_false, not_false_eq_true, true_and, and_true, false_and, and_false, or_true, true_or, or_false, false_or, Nat.reduceEqDiff, Nat.reduceLeDiff, Nat.reduceLT, Nat.reduceAdd, Nat.reduceSub, Nat.reduceMul, Nat.reduceDiv, Nat.reduceMod, ↓reduceIte, z]
      rw [k1, if_pos (by omega)]
  rw [li2] at k73
  have ne2 : ¬ 2 = 12 + p := by omega
  simp (disch := omega) only [lt_eq, bi_some, bv_some, ↓lim1, pk_m1f, fI_add1, li0, li1, li2, li3, li4, li5, li6, li7, li8, li9, li10, li12, li15, li16, li19, li20, li26, li30, li31, li32, li48, li57, li59, li60, li64, li99, li100, li128, li240, li255, li480, li999, li1000, li9000, li9999, liF, nI_add, sb_nI, pk_mul, dv_nI, cl_nI, inbT, le_nI, lt_nI, eq_nI, fI_le, fI_eq, st_ne, st_at, iT, iF, Nat.zero_add, Nat.add_zero, not_true_eq_false, not_false_eq_true, true_and, and_true, false_and, and_false, or_true, true_or, or_false, false_or, Nat.reduceEqDiff, Nat.reduceLeDiff, Nat.reduceLT, Nat.reduceAdd, Nat.reduceSub, Nat.reduceMul, Nat.reduceDiv, Nat.reduceMod, ↓reduceIte, wr_st0, wr_at0, e2, ne2, wr_wr]
  unfold fX12_answers_49
  by_cases z : w (12 + p) ≤ L
  · simp (disch := omega) only [lt_eq, bi_some, bv_some, ↓lim1, pk_m1f, fI_add1, li0, li1, li2, li3, li4, li5, li6, li7, li8, li9, li10, li12, li15, li16, li19, li20, li26, li30, li31, li32, li48, li57, li59, li60, li64, li99, li100, li128, li240, li255, li480, li999, li1000, li9000, li9999, liF, nI_add, sb_nI, pk_mul, dv_nI, cl_nI, inbT, le_nI, lt_nI, eq_nI, fI_le, fI_eq, st_ne, st_at, iT, iF, Nat.zero_add, Nat.add_zero, not_true_eq_false, not_false_eq_true, true_and, and_true, false_and, and_false, or_true, true_or, or_false, false_or, Nat.reduceEqDiff, Nat.reduceLeDiff, Nat.reduceLT, Nat.reduceAdd, Nat.reduceSub, Nat.reduceMul, Nat.reduceDiv, Nat.reduceMod, ↓reduceIte, z, show w (12 + p) - L = 0 by omega, ho, k73 (w 2) ho]
  · simp (disch := omega) only [lt_eq, bi_some, bv_some, ↓lim1, pk_m1f, fI_add1, li0, li1, li2, li3, li4, li5, li6, li7, li8, li9, li10, li12, li15, li16, li19, li20, li26, li30, li31, li32, li48, li57, li59, li60, li64, li99, li100, li128, li240, li255, li480, li999, li1000, li9000, li9999, liF, nI_add, sb_nI, pk_mul, dv_nI, cl_nI, inbT, le_nI, lt_nI, eq_nI, fI_le, fI_eq, st_ne, st_at, iT, iF, Nat.zero_add, Nat.add_zero, not_true_eq_false, not_false_eq_true, true_and, and_true, false_and, and_false, or_true, true_or, or_false, false_or, Nat.reduceEqDiff, Nat.reduceLeDiff, Nat.reduceLT, Nat.reduceAdd, Nat.reduceSub, Nat.reduceMul, Nat.reduceDiv, Nat.reduceMod, ↓reduceIte, z]
    by_cases y : w 2 + (w (12 + p) - L) ≤ 9999
    · simp (disch := omega) only [lt_eq, bi_some, bv_some, ↓lim1, pk_m1f, fI_add1, li0, li1, li2, li3, li4, li5, li6, li7, li8, li9, li10, li12, li15, li16, li19, li20, li26, li30, li31, li32, li48, li57, li59, li60, li64, li99, li100, li128, li240, li255, li480, li999, li1000, li9000, li9999, liF, nI_add, sb_nI, pk_mul, dv_nI, cl_nI, inbT, le_nI, lt_nI, eq_nI, fI_le, fI_eq, st_ne, st_at, iT, iF, Nat.zero_add, Nat.add_zero, not_true_eq_false, not_false_eq_true, true_and, and_true, false_and, and_false, or_true, true_or, or_false, false_or, Nat.reduceEqDiff, Nat.reduceLeDiff, Nat.reduceLT, Nat.reduceAdd, Nat.reduceSub, Nat.reduceMul, Nat.reduceDiv, Nat.reduceMod, ↓reduceIte, y, k73 _ y]
    · simp (disch := omega) only [lt_eq, bi_some, bv_some, ↓lim1, pk_m1f, fI_add1, li0, li1, li2, li3, li4, li5, li6, li7, li8, li9, li10, li12, li15, li16, li19, li20, li26, li30, li31, li32, li48, li57, li59, li60, li64, li99, li100, li128, li240, li255, li480, li999, li1000, li9000, li9999, liF, nI_add, sb_nI, pk_mul, dv_nI, cl_nI, inbT, le_nI, lt_nI, eq_nI, fI_le, fI_eq, st_ne, st_at, iT, iF, Nat.zero_add, Nat.add_zero, not_true_eq_false, not_false_eq_true, true_and, and_true, false_and, and_false, or_true, true_or, or_false, false_or, Nat.reduceEqDiff, Nat.reduceLeDiff, Nat.reduceLT, Nat.reduceAdd, Nat.reduceSub, Nat.reduceMul, Nat.reduceDiv, Nat.reduceMod, ↓reduceIte, y, k73 9999 (Nat.le_refl _)]
theorem Wc.ans {p0 V P : Nat} {w : Nat → Nat} (hw : Wc p0 V P w) (hP : P ≤ 7) (hV : V ≤ 4) {p q l : Nat} (hp : p < P) (hq : q < P) (hl : l ≤ 99) : Wc p0 V P (ansW w p q l) := by
  have h0 := hw.1
  refine ((((hw.fate hP hV hp hl).owed hP hV (by split <;> omega)).pat hP hV (by split <;> omega) (fun h => ?_) (fun h => ?_)).went hP hV (ins_pow hw.1.2.2.2.2.1 hq hP))
  · have := h0.2.1 h
    split <;> omega
  · have := h0.2.2.1 h
    split <;> omega
