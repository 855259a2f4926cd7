/-! the class: matching -/
theorem loopE {ρ α : Type} (L : Nat → Nat → α → Option ρ) (N : Nat) (I : Nat → α → Prop) (K : α → Option ρ) (hx : ∀ n s, I N s → L (n + 1) N s = K s) (hs : ∀ n i s, i < N → I i s → ∃ t, L (n + 1) i s = L n (i + 1) t ∧ I (i + 1) t) : ∀ (d i n : Nat) (s : α), i + d = N → d < n → I i s → ∃ t, L n i s = K t ∧ I N t := by
  intro d
  induction d with
  | zero =>
    intro i n s h1 h2 h3
    cases n with
    | zero => omega
    | succ n =>
      have : i = N := by omega
      subst this
      exact ⟨s, hx n s h3, h3⟩
  | succ d ih =>
    intro i n s h1 h2 h3
    cases n with
    | zero => omega
    | succ n =>
      obtain ⟨t, e, h4⟩ := hs n i s (by omega) h3
      obtain ⟨u, e2, h5⟩ := ih (i + 1) n t (by omega) (by omega) h4
      exact ⟨u, by rw [e, e2], h5⟩
theorem bt_tb (s k : Nat) : (bt s k = 0) ↔ s.testBit k = false := by
  rw [Nat.testBit_eq_decide_div_mod_eq]
  unfold bt
  rw [decide_eq_false_iff_not]
  omega
theorem bt_or (s w k : Nat) : (bt (s ||| w) k = 0) ↔ (bt s k = 0 ∧ bt w k = 0) := by
  rw [bt_tb, bt_tb, bt_tb, Nat.testBit_or, Bool.or_eq_false_iff]
theorem insor_all : ∀ s : Fin 128, ∀ k : Fin 7, ins s.val k.val = s.val ||| 2 ^ k.val := by decide +kernel
theorem ins_or {s k : Nat} (hs : s < 128) (hk : k < 7) : ins s k = s ||| 2 ^ k := insor_all ⟨s, hs⟩ ⟨k, hk⟩
theorem or_128 {s w : Nat} (hs : s < 128) (hw : w < 128) : s ||| w < 128 := Nat.or_lt_two_pow (n := 7) hs hw
theorem ins_un {s w k : Nat} (hs : s < 128) (hw : w < 128) (hk : k < 7) : ins (s ||| w) k = ins s k ||| w := by
  rw [ins_or (or_128 hs hw) hk, ins_or hs hk, Nat.or_assoc, Nat.or_comm w, ← Nat.or_assoc]
section Mat
variable {a : Ab} {h : Nat} {σ : Sg}
/-- the class's cells while it matches -/
def Mt (a : Ab) (σ τ : Sg) : Prop := (∀ m, m ≠ 16 → ¬ (120 ≤ m ∧ m < 125) → τ m = σ m) ∧ τ 120 4 = nI (a 0 4)
theorem Mt.st {τ : Sg} (x : Mt a σ τ) {n k : Nat} {v : Int32} (hn : n = 121 ∨ n = 122 ∨ n = 123 ∨ n = 124) : Mt a σ (st τ n k v) := ⟨fun m h1 h2 => by rw [st_ne (by omega)]; exact x.1 m h1 h2, by rw [st_ne (by omega)]; exact x.2⟩
theorem Mt.bs {τ : Sg} (x : Mt a σ τ) (u v : Int32) : Mt a σ (bs τ u v) := ⟨fun m h1 h2 => by rw [bs_ne h1]; exact x.1 m h1 h2, by rw [bs_ne (by omega)]; exact x.2⟩
theorem Mt.cs {τ : Sg} (r : RelC a h σ) (x : Mt a σ τ) : Cs a h (a 4) τ := ⟨r.1.to (fun m hm => x.1 m (by omega) (by omega)), r.2.1.to (fun m h1 h2 => x.1 m (by omega) (by omega))⟩
/-- what is left is laid, up to q of p; what is kept, up to k -/
def LO (a : Ab) (k p q : Nat) (τ : Sg) : Prop := (∀ p' q', p' < a 0 4 → q' < a 0 4 → (p' < p ∨ (p' = p ∧ q' < q)) → τ 123 (7 * p' + q') = if 0 < a 4 (12 + p') ∧ bt (a 4 3) q' = 0 then nI (lf a p' q') else fI 0) ∧ ∀ p', p' < k → p' < a 0 4 → τ 122 p' = nI (a 4 (12 + p'))
theorem LO.to {k p q : Nat} {τ υ : Sg} (x : LO a k p q τ) (e : υ 123 = τ 123) (e2 : υ 122 = τ 122) : LO a k p q υ := by unfold LO; rw [e, e2]; exact x
theorem cTry27 (r : RelC a h σ) (g : Gb a) {p : Nat} (hp : p < a 0 4) (kx : Sg → Int32 → Option Sg) {τ : Sg} (m : Mt a σ τ) (l : LO a (p + 1) p 0 τ) : ∃ υ, fX6_tryAll_27 FU kx τ (nI p) 0 = kx υ (nI p) ∧ Mt a σ υ ∧ LO a (p + 1) (p + 1) 0 υ := by
  have hP := gb_P g
  have hf := wc_fate (gb_w g) hp
  have := loopE (fun n i (t : Sg) => fX6_tryAll_27 n kx t (nI p) (nI i)) (a 0 4) (fun i t => Mt a σ t ∧ LO a (p + 1) p i t) (fun t => kx t (nI p)) (by
    intro n t ⟨m, l⟩
    show fX6_tryAll_27 (n + 1) kx t (nI p) (nI (a 0 4)) = _
    rw [fX6_tryAll_27_s]
    unfold fX6_tryAll_27b
    rw [m.2, if_pos (Int32.le_refl _)]) (by
    intro n i t hi ⟨m, l⟩
    show ∃ t', fX6_tryAll_27 (n + 1) kx t (nI p) (nI i) = fX6_tryAll_27 n kx t' (nI p) (nI (i + 1)) ∧ _
    rw [fX6_tryAll_27_s]
    unfold fX6_tryAll_27b fX6_tryAll_69
    have c := Mt.cs r m
    have ec : (nI p).toNatClampNeg = p := cl_nI (by omega)
    have ep : nI p * 7 + nI i = nI (7 * p + i) := by rw [li7, pk_mul, nI_add, Nat.mul_comm]
    have ecp : (nI (7 * p + i)).toNatClampNeg = 7 * p + i := cl_nI (by omega)
    rw [m.2, if_neg (show ¬ nI (a 0 4) ≤ nI i by rw [le_nI (by omega) (by omega)]; omega), cAns c g (gb_w g) hp hi, bi_some]
    by_cases q : 0 < a 4 (12 + p) ∧ bt (a 4 3) i = 0
    · rw [if_pos q, if_neg (by decide), if_pos (inb_nI (show p < 7 by omega) (by omega)), ec, l.2 p (by omega) hp, cLeft c g hi hf, bi_some, ep, if_pos (inb_nI (show 7 * p + i < 49 by omega) (by omega)), ecp, lt_eq, li1, nI_add, lt_eq]
      refine ⟨_, rfl, (m.bs _ _).st (by omega), fun p' q' h1 h2 h3 => ?_, fun p' h1 h2 => ?_⟩
      · rw [st_at]
        by_cases c : p' = p ∧ q' = i
        · rw [if_pos (by omega), c.1, c.2, if_pos q]; rfl
        · rw [if_neg (by omega), bs_ne (by omega)]
          exact l.1 p' q' h1 h2 (by omega)
      · rw [st_ne (by omega), bs_ne (by omega)]
        exact l.2 p' h1 h2
    · rw [if_neg q, if_pos (by decide), ep, if_pos (inb_nI (show 7 * p + i < 49 by omega) (by omega)), ecp, lim1, lt_eq, li1, nI_add, lt_eq]
      refine ⟨_, rfl, m.st (by omega), fun p' q' h1 h2 h3 => ?_, fun p' h1 h2 => ?_⟩
      · rw [st_at]
        by_cases c : p' = p ∧ q' = i
        · rw [if_pos (by omega), c.1, c.2, if_neg q]
        · rw [if_neg (by omega)]
          exact l.1 p' q' h1 h2 (by omega)
      · rw [st_ne (by omega)]
        exact l.2 p' h1 h2) (a 0 4) 0 FU τ (by omega) (by have := FU_ge; omega) ⟨m, l⟩
  obtain ⟨υ, e, m2, l2⟩ := this
  exact ⟨υ, e, m2, fun p' q' h1 h2 h3 => l2.1 p' q' h1 h2 (by omega), l2.2⟩
theorem cTry (r : RelC a h σ) (g : Gb a) {τ : Sg} (m : Mt a σ τ) : ∃ υ, fX6_tryAll τ = some υ ∧ Mt a σ υ ∧ LO a (a 0 4) (a 0 4) 0 υ := by
  have hP := gb_P g
  unfold fX6_tryAll
  exact loopE (fun n i (t : Sg) => fX6_tryAll_2 n (fun σ_13 => some σ_13) t (nI i)) (a 0 4) (fun i t => Mt a σ t ∧ LO a i i 0 t) (fun t => some t) (by
    intro n t ⟨m, l⟩
    show fX6_tryAll_2 (n + 1) _ t (nI (a 0 4)) = _
    rw [fX6_tryAll_2_s]
    unfold fX6_tryAll_2b
    rw [m.2, if_pos (Int32.le_refl _)]) (by
    intro n i t hi ⟨m, l⟩
    show ∃ t', fX6_tryAll_2 (n + 1) _ t (nI i) = fX6_tryAll_2 n _ t' (nI (i + 1)) ∧ _
    rw [fX6_tryAll_2_s]
    unfold fX6_tryAll_2b
    have c := Mt.cs r m
    have ec : (nI i).toNatClampNeg = i := cl_nI (by omega)
    have l0 : LO a (i + 1) i 0 (st t 122 i (nI (a 4 (12 + i)))) := by
      refine ⟨fun p' q' h1 h2 h3 => ?_, fun p' h1 h2 => ?_⟩
      · rw [st_ne (by omega)]
        exact l.1 p' q' h1 h2 h3
      · rw [st_at]
        by_cases c : p' = i
        · rw [if_pos c, c]
        · rw [if_neg c]
          exact l.2 p' (by omega) h2
    rw [m.2, if_neg (show ¬ nI (a 0 4) ≤ nI i by rw [le_nI (by omega) (by omega)]; omega), if_pos (inb_nI (show i < 7 by omega) (by omega)), if_pos (inb_nI (show i < 7 by omega) (by omega)), ec, cs_fate c hi, lt_eq]
    obtain ⟨υ, e, m2, l2⟩ := cTry27 r g hi (fun σ_11 x2_11 => lt (x2_11 + 1) (fun x2_12 => fX6_tryAll_2 n (fun σ_13 => some σ_13) σ_11 x2_12)) (m.st (by omega)) l0
    rw [e, li1, nI_add, lt_eq]
    exact ⟨υ, rfl, m2, l2⟩) (a 0 4) 0 FU τ (by omega) (by have := FU_ge; omega) ⟨m, fun p' q' _ _ h3 => by omega, fun p' h1 _ => by omega⟩
/-- layers from k on are laid -/
def LY (a : Ab) (k : Nat) (τ : Sg) : Prop := ∀ p, k ≤ p → p ≤ a 0 4 → ∀ s, s < 2 ^ a 0 4 → τ 124 (128 * p + s) = nI (ls a (a 0 4 - p) p (s ||| a 4 3))
theorem cMayGo (g : Gb a) {τ : Sg} {p q s : Nat} (hp : p < a 0 4) (hq : q < a 0 4) (hs : s < 2 ^ a 0 4) (l : LO a (a 0 4) (a 0 4) 0 τ) : fX6_mayGo τ (nI p) (nI q) (nI s) = some (nI (if 0 < a 4 (12 + p) ∧ bt (s ||| a 4 3) q = 0 then 1 else 0), τ) := by
  have hP := gb_P g
  have h7 := pow_le7 hP
  have hlf := lf_le g (q := q) hp
  have e1 : nI p * 7 + nI q = nI (7 * p + q) := by rw [li7, pk_mul, nI_add, Nat.mul_comm]
  have c1 : (nI (7 * p + q)).toNatClampNeg = 7 * p + q := cl_nI (by omega)
  unfold fX6_mayGo fX6_mayGo_27
  rw [bt_nI (by omega) (by omega), lim1, e1, if_pos (inb_nI (show 7 * p + q < 49 by omega) (by omega)), c1, l.1 p q hp hq (by omega)]
  have hb := bt_or s (a 4 3) q
  by_cases z : bt s q = 0
  · rw [if_pos (show nI (bt s q) = 0 by rw [z]; rfl)]
    by_cases y : 0 < a 4 (12 + p) ∧ bt (a 4 3) q = 0
    · rw [if_pos y, if_neg (show ¬ nI (lf a p q) = fI 0 by rw [← fI_s, fI_eq (by omega) (by omega)]; omega), if_pos (show 0 < a 4 (12 + p) ∧ bt (s ||| a 4 3) q = 0 from ⟨y.1, hb.mpr ⟨z, y.2⟩⟩)]; rfl
    · rw [if_neg y, if_pos rfl, if_neg (fun c => y ⟨c.1, (hb.mp c.2).2⟩)]; rfl
  · have z1 : bt s q = 1 := by have := bt_01 s q; omega
    rw [if_neg (show ¬ nI (bt s q) = 0 by rw [z1]; decide), if_neg (fun c => z (hb.mp c.2).1)]; rfl
theorem cLeftWith (g : Gb a) {τ : Sg} {p q s : Nat} (hp : p < a 0 4) (hq : q < a 0 4) (hs : s < 2 ^ a 0 4) (l : LO a (a 0 4) (a 0 4) 0 τ) (y : LY a (p + 1) τ) (hc : 0 < a 4 (12 + p) ∧ bt (s ||| a 4 3) q = 0) : fX6_leftWith τ (nI p) (nI q) (nI s) = some (nI (lf a p q + ls a (a 0 4 - (p + 1)) (p + 1) (ins (s ||| a 4 3) q)), τ) := by
  have hP := gb_P g
  have h7 := pow_le7 hP
  have hw := (wc_set (gb_w g) hP).1
  have hi := ins_pow hs hq hP
  have hi2 := pow_le7 hP
  unfold fX6_leftWith
  have e1 : nI p * 7 + nI q = nI (7 * p + q) := by rw [li7, pk_mul, nI_add, Nat.mul_comm]
  have e2 : (nI p + 1) * 128 + nI (ins s q) = nI (128 * (p + 1) + ins s q) := by rw [li1, nI_add, li128, pk_mul, nI_add, Nat.mul_comm]
  have c1 : (nI (7 * p + q)).toNatClampNeg = 7 * p + q := cl_nI (by omega)
  have c2 : (nI (128 * (p + 1) + ins s q)).toNatClampNeg = 128 * (p + 1) + ins s q := cl_nI (by omega)
  rw [ins_nI (by omega) (by omega), e1, e2, if_pos (inb_nI (show 7 * p + q < 49 by omega) (by omega)), if_pos (inb_nI (show 128 * (p + 1) + ins s q < 1024 by omega) (by omega)), c1, c2, l.1 p q hp hq (by omega), if_pos (show 0 < a 4 (12 + p) ∧ bt (a 4 3) q = 0 from ⟨hc.1, ((bt_or s (a 4 3) q).mp hc.2).2⟩), y (p + 1) (by omega) (by omega) _ hi, nI_add, ins_un (by omega) hw (by omega)]
theorem cLeastFrom (r : RelC a h σ) (g : Gb a) {τ : Sg} (m : Mt a σ τ) {p s : Nat} (hp : p < a 0 4) (hs : s < 2 ^ a 0 4) (l : LO a (a 0 4) (a 0 4) 0 τ) (y : LY a (p + 1) τ) : fX6_leastFrom τ (nI p) (nI s) = some (nI (ls a (a 0 4 - p) p (s ||| a 4 3)), τ) := by
  have hP := gb_P g
  have h7 := pow_le7 hP
  have c := Mt.cs r m
  have hf := wc_fate (gb_w g) hp
  have hls : ∀ S, ls a (a 0 4 - (p + 1)) (p + 1) S ≤ 693 := fun S => Nat.le_trans (ls_le g _ (p + 1) S (by omega)) (by omega)
  unfold fX6_leastFrom
  have e2 : (nI p + 1) * 128 + nI s = nI (128 * (p + 1) + s) := by rw [li1, nI_add, li128, pk_mul, nI_add, Nat.mul_comm]
  have c2 : (nI (128 * (p + 1) + s)).toNatClampNeg = 128 * (p + 1) + s := cl_nI (by omega)
  have ec : (nI p).toNatClampNeg = p := cl_nI (by omega)
  rw [e2, if_pos (inb_nI (show p < 7 by omega) (by omega)), if_pos (inb_nI (show 128 * (p + 1) + s < 1024 by omega) (by omega)), c2, ec, l.2 p hp hp, y (p + 1) (by omega) (by omega) s hs, nI_add, lt_eq, li0]
  rw [show a 0 4 - p = (a 0 4 - (p + 1)) + 1 by omega]
  refine (loop0 (fun n i its => fX6_leastFrom_25 n (fun σ_10 x3_10 => some (x3_10, σ_10)) τ (nI p) (nI s) (nI its) (nI i)) (a 0 4) (by omega) (fun its => some (nI its, τ)) (fun _ its => its ≤ 1000) (lsS a (ls a (a 0 4 - (p + 1)) (p + 1)) p (s ||| a 4 3)) ?_ ?_ ?_ _ (by have := hls (s ||| a 4 3); omega)).1
  · intro n its _
    simp only [fX6_leastFrom_25_s]
    unfold fX6_leastFrom_25b
    rw [m.2, if_pos (Int32.le_refl _)]
  · intro n i its hi hle
    have hlf := lf_le g (q := i) hp
    have hl2 := hls (ins (s ||| a 4 3) i)
    simp only [fX6_leastFrom_25_s]
    unfold fX6_leastFrom_25b fX6_leastFrom_58 lsS
    rw [m.2, if_neg (show ¬ nI (a 0 4) ≤ nI i by rw [le_nI (by omega) (by omega)]; omega), cMayGo g hp hi hs l, bi_some]
    by_cases q : 0 < a 4 (12 + p) ∧ bt (s ||| a 4 3) i = 0
    · rw [if_pos q, if_pos q, if_neg (by decide), cLeftWith g hp hi hs l y q, bi_some, mn_nI (by omega) (by omega), li1, nI_add, lt_eq, lt_eq]
      congr 2
      split <;> split <;> omega
    · rw [if_neg q, if_neg q, if_pos (by decide), li1, nI_add, lt_eq]
  · intro i its hi hle
    have hlf := lf_le g (q := i) hp
    have hl2 := hls (ins (s ||| a 4 3) i)
    show lsS a _ p _ i its ≤ 1000
    unfold lsS
    repeat' split
    all_goals omega
theorem cWork63 (r : RelC a h σ) (g : Gb a) {p : Nat} (hp : p < a 0 4) (kx : Sg → Int32 → Option Sg) {τ : Sg} (m : Mt a σ τ) (l : LO a (a 0 4) (a 0 4) 0 τ) (y : LY a (p + 1) τ) : ∃ υ, fX6_work_63 FU kx τ (nI p) 0 = kx υ (nI p) ∧ Mt a σ υ ∧ LO a (a 0 4) (a 0 4) 0 υ ∧ LY a p υ := by
  have hP := gb_P g
  have h7 := pow_le7 hP
  have := loopE (fun n i (t : Sg) => fX6_work_63 n kx t (nI p) (nI i)) (2 ^ a 0 4) (fun i t => (Mt a σ t ∧ LO a (a 0 4) (a 0 4) 0 t ∧ LY a (p + 1) t) ∧ ∀ s, s < i → t 124 (128 * p + s) = nI (ls a (a 0 4 - p) p (s ||| a 4 3))) (fun t => kx t (nI p)) (by
    intro n t ⟨⟨m, l, y⟩, z⟩
    show fX6_work_63 (n + 1) kx t (nI p) (nI (2 ^ a 0 4)) = _
    rw [fX6_work_63_s]
    unfold fX6_work_63b
    rw [m.2, sh_nI (by omega), if_pos (Int32.le_refl _)]) (by
    intro n i t hi ⟨⟨m, l, y⟩, z⟩
    show ∃ t', fX6_work_63 (n + 1) kx t (nI p) (nI i) = fX6_work_63 n kx t' (nI p) (nI (i + 1)) ∧ _
    rw [fX6_work_63_s]
    unfold fX6_work_63b
    have e2 : nI p * 128 + nI i = nI (128 * p + i) := by rw [li128, pk_mul, nI_add, Nat.mul_comm]
    have c2 : (nI (128 * p + i)).toNatClampNeg = 128 * p + i := cl_nI (by omega)
    rw [m.2, sh_nI (by omega), if_neg (show ¬ nI (2 ^ a 0 4) ≤ nI i by rw [le_nI (by omega) (by omega)]; omega), cLeastFrom r g m hp hi l y, bi_some, e2, if_pos (inb_nI (show 128 * p + i < 1024 by omega) (by omega)), c2, lt_eq, li1, nI_add, lt_eq]
    refine ⟨_, rfl, ⟨m.st (by omega), l.to (st_ne (by omega)) (st_ne (by omega)), fun p' h1 h2 s hs => ?_⟩, fun s hs => ?_⟩
    · rw [st_at, if_neg (by omega)]; exact y p' h1 h2 s hs
    · rw [st_at]
      by_cases c : s = i
      · rw [if_pos (by omega), c]
      · rw [if_neg (by omega)]; exact z s (by omega)) (2 ^ a 0 4) 0 FU τ (by omega) (by have := FU_ge; omega) ⟨⟨m, l, y⟩, fun s hs => by omega⟩
  obtain ⟨υ, e, ⟨m2, l2, y2⟩, z2⟩ := this
  refine ⟨υ, e, m2, l2, fun p' h1 h2 s hs => ?_⟩
  rcases (show p' = p ∨ p + 1 ≤ p' by omega) with c | c
  · rw [c]; exact z2 s hs
  · exact y2 p' c h2 s hs
theorem fI_m1 (k : Nat) : nI k + (-1) = fI k := by
  cases k with
  | zero => decide
  | succ k => rw [fI_s]; exact pk_m1 k
theorem cWork57 (r : RelC a h σ) (g : Gb a) (kx : Sg → Option Sg) : ∀ (k fu : Nat) (τ : Sg), k ≤ a 0 4 → k < fu → Mt a σ τ → LO a (a 0 4) (a 0 4) 0 τ → LY a k τ → ∃ υ, fX6_work_57 fu kx τ (fI k) = kx υ ∧ Mt a σ υ ∧ LO a (a 0 4) (a 0 4) 0 υ ∧ LY a 0 υ := by
  have hP := gb_P g
  intro k
  induction k with
  | zero =>
    intro fu τ h1 h2 m l y
    cases fu with
    | zero => omega
    | succ fu =>
      rw [fX6_work_57_s]
      unfold fX6_work_57b
      rw [if_pos (by decide)]
      exact ⟨τ, rfl, m, l, y⟩
  | succ k ih =>
    intro fu τ h1 h2 m l y
    cases fu with
    | zero => omega
    | succ fu =>
      rw [fX6_work_57_s]
      unfold fX6_work_57b
      rw [fI_s, if_neg (nI_pos (by omega))]
      obtain ⟨υ, e, m2, l2, y2⟩ := cWork63 r g (show k < a 0 4 by omega) (fun σ_14 x1_14 => lt (x1_14 + (-1)) (fun x1_15 => fX6_work_57 fu kx σ_14 x1_15)) m l y
      rw [e, fI_m1, lt_eq]
      exact ih fu υ (by omega) (by omega) m2 l2 y2
theorem cWork18 (g : Gb a) (kx : Sg → Option Sg) {τ : Sg} (m : Mt a σ τ) (l : LO a (a 0 4) (a 0 4) 0 τ) : ∃ υ, fX6_work_18 FU kx τ 0 = kx υ ∧ Mt a σ υ ∧ LO a (a 0 4) (a 0 4) 0 υ ∧ LY a (a 0 4) υ := by
  have hP := gb_P g
  have h7 := pow_le7 hP
  have := loopE (fun n i (t : Sg) => fX6_work_18 n kx t (nI i)) (2 ^ a 0 4) (fun i t => (Mt a σ t ∧ LO a (a 0 4) (a 0 4) 0 t) ∧ ∀ s, s < i → t 124 (128 * a 0 4 + s) = nI 0) (fun t => kx t) (by
    intro n t ⟨⟨m, l⟩, z⟩
    show fX6_work_18 (n + 1) kx t (nI (2 ^ a 0 4)) = _
    rw [fX6_work_18_s]
    unfold fX6_work_18b
    rw [m.2, sh_nI (by omega), if_pos (Int32.le_refl _)]) (by
    intro n i t hi ⟨⟨m, l⟩, z⟩
    show ∃ t', fX6_work_18 (n + 1) kx t (nI i) = fX6_work_18 n kx t' (nI (i + 1)) ∧ _
    rw [fX6_work_18_s]
    unfold fX6_work_18b
    have e2 : nI (a 0 4) * 128 + nI i = nI (128 * a 0 4 + i) := by rw [li128, pk_mul, nI_add, Nat.mul_comm]
    have c2 : (nI (128 * a 0 4 + i)).toNatClampNeg = 128 * a 0 4 + i := cl_nI (by omega)
    rw [m.2, sh_nI (by omega), if_neg (show ¬ nI (2 ^ a 0 4) ≤ nI i by rw [le_nI (by omega) (by omega)]; omega), e2, if_pos (inb_nI (show 128 * a 0 4 + i < 1024 by omega) (by omega)), c2, lt_eq, li1, nI_add, lt_eq]
    refine ⟨_, rfl, ⟨m.st (by omega), l.to (st_ne (by omega)) (st_ne (by omega))⟩, fun s hs => ?_⟩
    rw [st_at]
    by_cases c : s = i
    · rw [if_pos (by omega)]; rfl
    · rw [if_neg (by omega)]; exact z s (by omega)) (2 ^ a 0 4) 0 FU τ (by omega) (by have := FU_ge; omega) ⟨⟨m, l⟩, fun s hs => by omega⟩
  obtain ⟨υ, e, ⟨m2, l2⟩, z2⟩ := this
  refine ⟨υ, e, m2, l2, fun p' h1 h2 s hs => ?_⟩
  have : p' = a 0 4 := by omega
  rw [this, z2 s hs, Nat.sub_self]
  rfl
theorem cGoer (r : RelC a h σ) (g : Gb a) {τ : Sg} (m : Mt a σ τ) (l : LO a (a 0 4) (a 0 4) 0 τ) (y : LY a 0 τ) {p s : Nat} (hp : p < a 0 4) (hs : s < 2 ^ a 0 4) : fX6_firstGoer τ (nI p) (nI s) = some (fI (ff (gc a p (s ||| a 4 3)) (a 0 4) 0), τ) := by
  have hP := gb_P g
  have h7 := pow_le7 hP
  have c := Mt.cs r m
  have hls : ∀ S, ls a (a 0 4 - (p + 1)) (p + 1) S ≤ 693 := fun S => Nat.le_trans (ls_le g _ (p + 1) S (by omega)) (by omega)
  have hls2 : ls a (a 0 4 - p) p (s ||| a 4 3) ≤ 693 := Nat.le_trans (ls_le g _ p _ (by omega)) (by omega)
  have e2 : nI p * 128 + nI s = nI (128 * p + s) := by rw [li128, pk_mul, nI_add, Nat.mul_comm]
  have c2 : (nI (128 * p + s)).toNatClampNeg = 128 * p + s := cl_nI (by omega)
  have key : ∀ (d q fu : Nat), q + d = a 0 4 → d < fu → fX6_firstGoer_2 fu (fun σ_8 => some ((-1), σ_8)) τ (nI p) (nI s) (nI q) = some (fI (ff (gc a p (s ||| a 4 3)) d q), τ) := by
    intro d
    induction d with
    | zero =>
      intro q fu h1 h2
      cases fu with
      | zero => omega
      | succ fu =>
        rw [fX6_firstGoer_2_s]
        unfold fX6_firstGoer_2b ff
        rw [m.2, if_pos (show nI (a 0 4) ≤ nI q by rw [le_nI (by omega) (by omega)]; omega)]
        rfl
    | succ d ih =>
      intro q fu h1 h2
      cases fu with
      | zero => omega
      | succ fu =>
        have hq : q < a 0 4 := by omega
        have hlf := lf_le g (q := q) hp
        have hl2 := hls (ins (s ||| a 4 3) q)
        rw [fX6_firstGoer_2_s]
        unfold fX6_firstGoer_2b fX6_firstGoer_44 ff
        rw [m.2, if_neg (show ¬ nI (a 0 4) ≤ nI q by rw [le_nI (by omega) (by omega)]; omega), cMayGo g hp hq hs l, bi_some]
        by_cases z : 0 < a 4 (12 + p) ∧ bt (s ||| a 4 3) q = 0
        · rw [if_pos z, if_neg (by decide), cLeftWith g hp hq hs l (fun p' h1 h2 => y p' (by omega) h2) z, bi_some, e2, if_pos (inb_nI (show 128 * p + s < 1024 by omega) (by omega)), c2, y p (by omega) (by omega) s hs]
          by_cases w : lf a p q + ls a (a 0 4 - (p + 1)) (p + 1) (ins (s ||| a 4 3) q) = ls a (a 0 4 - p) p (s ||| a 4 3)
          · rw [if_pos (by rw [w]), if_pos (show gc a p (s ||| a 4 3) q = true by unfold gc; exact decide_eq_true ⟨z.1, z.2, w⟩), fI_s]
          · rw [if_neg (by rw [eq_nI (by omega) (by omega)]; exact w), if_neg (show ¬ gc a p (s ||| a 4 3) q = true by unfold gc; rw [decide_eq_true_iff]; exact fun c => w c.2.2), li1, nI_add, lt_eq]
            exact ih (q + 1) fu (by omega) (by omega)
        · rw [if_neg z, if_pos (by decide), if_neg (show ¬ gc a p (s ||| a 4 3) q = true by unfold gc; rw [decide_eq_true_iff]; exact fun c => z ⟨c.1, c.2.1⟩), li1, nI_add, lt_eq]
          exact ih (q + 1) fu (by omega) (by omega)
  unfold fX6_firstGoer
  exact key (a 0 4) 0 FU (by omega) (by have := FU_ge; omega)
/-- the goers, one after the other -/
def gstep (a : Ab) : Nat → Nat × Nat → Nat × Nat := fun p z => (if ff (gc a p z.1) (a 0 4) 0 = 0 then z.1 else ins z.1 (ff (gc a p z.1) (a 0 4) 0 - 1), ff (gc a p z.1) (a 0 4) 0)
theorem cChoose (r : RelC a h σ) (g : Gb a) {τ : Sg} (m : Mt a σ τ) (l : LO a (a 0 4) (a 0 4) 0 τ) (y : LY a 0 τ) : ∃ υ, fX6_choose τ = some υ ∧ Mt a σ υ ∧ υ 124 = τ 124 ∧ ∀ k, k < a 0 4 → υ 121 k = fI (gst a k) := by
  have hP := gb_P g
  have h7 := pow_le7 hP
  have hw := (wc_set (gb_w g) hP).1
  have hP0 : 0 < 2 ^ a 0 4 := Nat.pow_pos (by omega)
  unfold fX6_choose
  have := loopE (fun n i (t : Sg × Nat) => fX6_choose_4 n (fun σ_9 => some σ_9) t.1 (nI t.2) (nI i)) (a 0 4) (fun i t => (Mt a σ t.1 ∧ LO a (a 0 4) (a 0 4) 0 t.1 ∧ t.1 124 = τ 124) ∧ (t.2 < 2 ^ a 0 4 ∧ (fo (gstep a) i 0 (a 4 3, 0)).1 = t.2 ||| a 4 3) ∧ ∀ k, k < i → t.1 121 k = fI (gst a k)) (fun t => some t.1) (by
    intro n t ⟨⟨m, l, e⟩, _, _⟩
    show fX6_choose_4 (n + 1) _ t.1 (nI t.2) (nI (a 0 4)) = _
    rw [fX6_choose_4_s]
    unfold fX6_choose_4b
    rw [m.2, if_pos (Int32.le_refl _)]) (by
    intro n i t hi ⟨⟨m, l, e⟩, ⟨hs, hz⟩, hk⟩
    have y2 : LY a 0 t.1 := by unfold LY; rw [e]; exact y
    have ec : (nI i).toNatClampNeg = i := cl_nI (by omega)
    have hfl := ff_le (gc a i (t.2 ||| a 4 3)) (a 0 4) 0
    have hst : fo (gstep a) (i + 1) 0 (a 4 3, 0) = gstep a i (fo (gstep a) i 0 (a 4 3, 0)) := by rw [fo_last, Nat.zero_add]
    have hgs : gst a i = ff (gc a i (t.2 ||| a 4 3)) (a 0 4) 0 := by
      show (fo (gstep a) (i + 1) 0 (a 4 3, 0)).2 = _
      rw [hst]
      show ff (gc a i (fo (gstep a) i 0 (a 4 3, 0)).1) (a 0 4) 0 = _
      rw [hz]
    show ∃ t' : Sg × Nat, fX6_choose_4 (n + 1) _ t.1 (nI t.2) (nI i) = fX6_choose_4 n _ t'.1 (nI t'.2) (nI (i + 1)) ∧ _
    rw [fX6_choose_4_s]
    unfold fX6_choose_4b fX6_choose_45
    rw [m.2, if_neg (show ¬ nI (a 0 4) ≤ nI i by rw [le_nI (by omega) (by omega)]; omega), cGoer r g m l y2 hi hs, bi_some, if_pos (inb_nI (show i < 7 by omega) (by omega))]
    simp only [ec]
    rw [lt_eq, if_pos (inb_nI (show i < 7 by omega) (by omega)), if_pos (inb_nI (show i < 7 by omega) (by omega)), st_at, if_pos rfl, ← hgs]
    have hk2 : ∀ k, k < i + 1 → st t.1 121 i (fI (gst a i)) 121 k = fI (gst a k) := fun k hk3 => by
      rw [st_at]
      by_cases c : k = i
      · rw [if_pos c, c]
      · rw [if_neg c]; exact hk k (by omega)
    have m3 : Mt a σ (st t.1 121 i (fI (gst a i))) := m.st (by omega)
    have l3 : LO a (a 0 4) (a 0 4) 0 (st t.1 121 i (fI (gst a i))) := l.to (st_ne (by omega)) (st_ne (by omega))
    have e3 : st t.1 121 i (fI (gst a i)) 124 = τ 124 := by rw [st_ne (by omega)]; exact e
    rw [← hgs] at hfl
    have hz2 : (fo (gstep a) (i + 1) 0 (a 4 3, 0)).1 = if gst a i = 0 then t.2 ||| a 4 3 else ins (t.2 ||| a 4 3) (gst a i - 1) := by
      rw [hst]
      show (if ff (gc a i (fo (gstep a) i 0 (a 4 3, 0)).1) (a 0 4) 0 = 0 then (fo (gstep a) i 0 (a 4 3, 0)).1 else ins (fo (gstep a) i 0 (a 4 3, 0)).1 (ff (gc a i (fo (gstep a) i 0 (a 4 3, 0)).1) (a 0 4) 0 - 1)) = _
      rw [hz, ← hgs]
    by_cases q : gst a i = 0
    · rw [if_pos (show fI (gst a i) = -1 by rw [q]; rfl), li1, nI_add, lt_eq]
      exact ⟨(_, t.2), rfl, ⟨m3, l3, e3⟩, ⟨hs, by rw [hz2, if_pos q]⟩, hk2⟩
    · have hq : gst a i - 1 < a 0 4 := by omega
      rw [if_neg (show ¬ fI (gst a i) = -1 by rw [lim1, fI_eq (by omega) (by omega)]; exact q), fI_p q, ins_nI (by omega) (by omega), lt_eq, li1, nI_add, lt_eq, ← fI_p q]
      exact ⟨(_, ins t.2 (gst a i - 1)), rfl, ⟨m3, l3, e3⟩, ⟨ins_pow hs hq hP, by rw [hz2, if_neg q, ins_un (by omega) hw (by omega)]⟩, hk2⟩) (a 0 4) 0 FU (τ, 0) (by omega) (by have := FU_ge; omega) ⟨⟨m, l, rfl⟩, ⟨hP0, by show a 4 3 = 0 ||| a 4 3; rw [Nat.zero_or]⟩, fun k hk => by omega⟩
  obtain ⟨t, e, ⟨m2, l2, e2⟩, _, k2⟩ := this
  exact ⟨t.1, e, m2, e2, k2⟩
theorem cWork (r : RelC a h σ) (g : Gb a) : ∃ υ, fX6_work σ = some υ ∧ Mt a σ υ ∧ υ 124 0 = nI (ls a (a 0 4) 0 (a 4 3)) ∧ ∀ k, k < a 0 4 → υ 121 k = fI (gst a k) := by
  have hP := gb_P g
  have hP0 : 0 < 2 ^ a 0 4 := Nat.pow_pos (by omega)
  unfold fX6_work
  rw [hl_gk r.1, hl_P r.1, lt_eq]
  have m0 : Mt a σ (st σ 120 4 (nI (a 0 4))) := ⟨fun m h1 h2 => st_ne (by omega), by rw [st_at, if_pos rfl]⟩
  obtain ⟨τ1, e1, m1, l1⟩ := cTry r g m0
  obtain ⟨τ2, e2, m2, l2, y2⟩ := cWork18 g (fun σ_7 => lt ((σ_7 120 4) - 1) (fun x1_8 => fX6_work_57 FU (fun σ_16 => bv (fX6_choose σ_16) (fun σ_17 => some σ_17)) σ_7 x1_8)) m1 l1
  obtain ⟨τ3, e3, m3, l3, y3⟩ := cWork57 r g (fun σ_16 => bv (fX6_choose σ_16) (fun σ_17 => some σ_17)) (a 0 4) FU τ2 (Nat.le_refl _) (by have := FU_ge; omega) m2 l2 y2
  obtain ⟨τ4, e4, m4, s4, k4⟩ := cChoose r g m3 l3 y3
  have em : nI (a 0 4) - 1 = fI (a 0 4) := by
    generalize a 0 4 = k
    cases k with
    | zero => decide
    | succ k => rw [fI_s, li1, sb_nI (by omega), Nat.add_sub_cancel]
  refine ⟨τ4, ?_, m4, ?_, k4⟩
  · rw [e1, bv_some, e2, m2.2, em, lt_eq, e3, e4, bv_some]
  · have := y3 0 (by omega) (by omega) 0 hP0
    rw [Nat.zero_or, Nat.sub_zero] at this
    rw [s4]
    exact this
theorem C_match (x : RelC a h σ) (g : Gb a) (y : Int32) : OkK σ (fX11_match σ y) (sp_match a y, a) := by
  have hP := gb_P g
  obtain ⟨υ, e, m, t, k⟩ := cWork x g
  have xu : RelC a h υ := x.to (fun n h1 h2 h3 => m.1 n h2 h3)
  have fu : FrC σ υ := fun n hn => m.1 n (by omega) (by omega)
  unfold fX11_match sp_match fX11_match_19 fX6_total
  rw [lim1]
  by_cases q : y = fI 0
  · rw [if_pos q, if_pos q, e, bv_some, if_pos q, if_pos (show inb 0 1024 by decide), bi_some, show (0 : Int32).toNatClampNeg = 0 by decide, t]
    exact OkK.mk rfl xu fu
  · rw [if_neg q, if_neg q, cPers x.1, bi_some]
    by_cases w : isR (a 0 4) y
    · obtain ⟨p, hp, rfl⟩ := ix_of (by omega) w
      have ec : (nI p).toNatClampNeg = p := cl_nI (by omega)
      rw [if_pos w, if_pos w, if_neg (by decide), e, bv_some, if_neg q, if_pos (inb_nI (show p < 7 by omega) (by omega)), ec, k p hp, dn_n (by omega)]
      exact OkK.mk rfl xu fu
    · rw [if_neg w, if_neg w, if_pos (by decide)]
      exact OkK.same x rfl
end Mat
