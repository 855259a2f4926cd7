/-! PURE ROWS: numbers -/
theorem st_eq (σ : Sg) (n k : Nat) (v : Int32) (m j : Nat) : st σ n k v m j = if m = n ∧ j = k then v else σ m j := by
  unfold st va_up upd
  by_cases h : m = n
  · subst h
    by_cases h2 : j = k <;> simp [h2]
  · simp [h]
theorem st_ne {σ : Sg} {n k : Nat} {v : Int32} {m : Nat} (h : m ≠ n) : st σ n k v m = σ m := by
  unfold st va_up
  simp [h]
theorem st_at (σ : Sg) (n k : Nat) (v : Int32) (j : Nat) : st σ n k v n j = if j = k then v else σ n j := by
  unfold st va_up upd
  simp
theorem sr_ne {σ : Sg} {n : Nat} {f : Nat → Int32} {m : Nat} (h : m ≠ n) : sr σ n f m = σ m := by
  unfold sr va_up
  simp [h]
theorem sr_at (σ : Sg) (n : Nat) (f : Nat → Int32) : sr σ n f n = f := by
  unfold sr va_up
  simp
theorem lt_eq {α β : Type} (v : α) (f : α → β) : lt v f = f v := by rw [lt]
theorem bi_some {ρ : Type} (r : Int32) (σ : Sg) (k : Int32 → Sg → Option ρ) : bi (some (r, σ)) k = k r σ := by rw [bi]
theorem bv_some {ρ : Type} (σ : Sg) (k : Sg → Option ρ) : bv (some σ) k = k σ := by rw [bv]
theorem iT {α : Type} {x y : α} {i : Decidable True} : @ite α True i x y = x := if_pos trivial
theorem iF {α : Type} {x y : α} {i : Decidable False} : @ite α False i x y = y := if_neg not_false
theorem inb_nI {i N : Nat} (h : i < N) (hN : N ≤ 100000) : inb (nI i) N := by
  have h1 : ¬ nI i < 0 := nI_pos (by omega)
  have h2 : (nI i).toNatClampNeg = i := nI_clamp (by omega)
  rw [inb, h2]
  intro q
  rcases q with q | q
  · exact h1 q
  · omega
theorem cl_nI {i : Nat} (h : i < 1000000000) : (nI i).toNatClampNeg = i := nI_clamp (by omega)
theorem le_nI {a b : Nat} (ha : a < 1000000000) (hb : b < 1000000000) : (nI a ≤ nI b) = (a ≤ b) := propext (nI_leI (by omega) (by omega))
theorem lt_nI {a b : Nat} (ha : a < 1000000000) (hb : b < 1000000000) : (nI a < nI b) = (a < b) := propext (nI_ltI (by omega) (by omega))
theorem eq_nI {a b : Nat} (ha : a < 1000000000) (hb : b < 1000000000) : (nI a = nI b) = (a = b) := propext (nI_eq (by omega) (by omega))
theorem sb_nI {a b : Nat} (h : b ≤ a) : nI a - nI b = nI (a - b) := pk_sub h
theorem dv_nI {a d : Nat} (ha : a < 1000000000) (h0 : 0 < d) (hd : d < 1000000000) : nI a / nI d = nI (a / d) := pk_div (by omega) h0 (by omega)
theorem rm_nI {a d : Nat} (ha : a < 1000000000) (h0 : 0 < d) (hd : d < 1000000000) : nI a - nI a / nI d * nI d = nI (a % d) := pk_rem (by omega) h0 (by omega)
theorem li0 : (0 : Int32) = nI 0 := by decide
theorem li1 : (1 : Int32) = nI 1 := by decide
theorem li2 : (2 : Int32) = nI 2 := by decide
theorem li3 : (3 : Int32) = nI 3 := by decide
theorem li4 : (4 : Int32) = nI 4 := by decide
theorem li5 : (5 : Int32) = nI 5 := by decide
theorem li6 : (6 : Int32) = nI 6 := by decide
theorem li7 : (7 : Int32) = nI 7 := by decide
theorem li8 : (8 : Int32) = nI 8 := by decide
theorem li9 : (9 : Int32) = nI 9 := by decide
theorem li10 : (10 : Int32) = nI 10 := by decide
theorem li12 : (12 : Int32) = nI 12 := by decide
theorem li15 : (15 : Int32) = nI 15 := by decide
theorem li16 : (16 : Int32) = nI 16 := by decide
theorem li19 : (19 : Int32) = nI 19 := by decide
theorem li20 : (20 : Int32) = nI 20 := by decide
theorem li26 : (26 : Int32) = nI 26 := by decide
theorem li30 : (30 : Int32) = nI 30 := by decide
theorem li31 : (31 : Int32) = nI 31 := by decide
theorem li32 : (32 : Int32) = nI 32 := by decide
theorem li48 : (48 : Int32) = nI 48 := by decide
theorem li57 : (57 : Int32) = nI 57 := by decide
theorem li59 : (59 : Int32) = nI 59 := by decide
theorem li60 : (60 : Int32) = nI 60 := by decide
theorem li64 : (64 : Int32) = nI 64 := by decide
theorem li99 : (99 : Int32) = nI 99 := by decide
theorem li100 : (100 : Int32) = nI 100 := by decide
theorem li128 : (128 : Int32) = nI 128 := by decide
theorem li240 : (240 : Int32) = nI 240 := by decide
theorem li255 : (255 : Int32) = nI 255 := by decide
theorem li480 : (480 : Int32) = nI 480 := by decide
theorem li999 : (999 : Int32) = nI 999 := by decide
theorem li1000 : (1000 : Int32) = nI 1000 := by decide
theorem li9000 : (9000 : Int32) = nI 9000 := by decide
theorem liF : (100000000 : Int32) = nI 100000000 := by decide
theorem li9999 : (9999 : Int32) = nI 9999 := by decide
/-- a number, or none -/
def fI (n : Nat) : Int32 := if n = 0 then -1 else nI (n - 1)
theorem fI_0 : fI 0 = -1 := by decide
theorem lim1 : (-1 : Int32) = fI 0 := by decide
theorem pk_m1f (n : Nat) : nI (n + 1) + fI 0 = nI n := pk_m1 n
theorem fI_le {m x : Nat} (hm : m < 1000000000) (hx : x < 1000000000) : (nI x ≤ fI m) = (x < m) := by
  cases m with
  | zero =>
    rw [fI_0]
    apply propext
    constructor
    · intro h
      have : (nI x).toInt ≤ (-1 : Int32).toInt := Int32.le_iff_toInt_le.mp h
      rw [nI_toInt (by omega), show (-1 : Int32).toInt = -1 by decide] at this
      omega
    · intro h; omega
  | succ m => rw [fI, if_neg (by omega), Nat.add_sub_cancel, le_nI (by omega) (by omega)]; apply propext; omega
theorem fI_eq {m n : Nat} (hm : m < 1000000000) (hn : n < 1000000000) : (fI m = fI n) = (m = n) := by
  apply propext
  constructor
  · intro h
    cases m with
    | zero =>
      cases n with
      | zero => rfl
      | succ n =>
        exfalso
        have := congrArg Int32.toInt h
        rw [fI_0, fI, if_neg (by omega), Nat.add_sub_cancel, nI_toInt (by omega), show (-1 : Int32).toInt = -1 by decide] at this
        omega
    | succ m =>
      cases n with
      | zero =>
        exfalso
        have := congrArg Int32.toInt h
        rw [fI_0, fI, if_neg (by omega), Nat.add_sub_cancel, nI_toInt (by omega), show (-1 : Int32).toInt = -1 by decide] at this
        omega
      | succ n =>
        rw [fI, fI, if_neg (by omega), if_neg (by omega), Nat.add_sub_cancel, Nat.add_sub_cancel, eq_nI (by omega) (by omega)] at h
        omega
  · intro h; rw [h]
theorem fI_add1 (n : Nat) : fI n + nI 1 = nI n := by
  cases n with
  | zero => decide
  | succ n => rw [fI, if_neg (by omega), Nat.add_sub_cancel, nI_add]
theorem fI_s (n : Nat) : fI (n + 1) = nI n := by simp [fI]
/-- steps i .. N - 1 -/
def fo {α : Type} (f : Nat → α → α) : Nat → Nat → α → α
  | 0, _, a => a
  | d + 1, i, a => fo f d (i + 1) (f i a)
theorem loopN {ρ α : Type} (L : Nat → Nat → α → Option ρ) (N : Nat) (K : α → Option ρ) (I : Nat → α → Prop) (f : Nat → α → α)
    (hx : ∀ n a, I N a → L (n + 1) N a = K a) (hs : ∀ n i a, i < N → I i a → L (n + 1) i a = L n (i + 1) (f i a)) (hI : ∀ i a, i < N → I i a → I (i + 1) (f i a)) :
    ∀ (d i n : Nat) (a : α), i + d = N → d < n → I i a → L n i a = K (fo f d i a) ∧ I N (fo f d i a) := by
  intro d
  induction d with
  | zero =>
    intro i n a h1 h2 h3
    cases n with
    | zero => omega
    | succ n =>
      have : i = N := by omega
      subst this
      exact ⟨hx n a h3, h3⟩
  | succ d ih =>
    intro i n a h1 h2 h3
    cases n with
    | zero => omega
    | succ n =>
      rw [hs n i a (by omega) h3]
      exact ih (i + 1) n (f i a) (by omega) (by omega) (hI i a (by omega) h3)
/-- the same, from 0, with the rows' own fuel -/
theorem loop0 {ρ α : Type} (L : Nat → Nat → α → Option ρ) (N : Nat) (hN : N < 2000) (K : α → Option ρ) (I : Nat → α → Prop) (f : Nat → α → α)
    (hx : ∀ n a, I N a → L (n + 1) N a = K a) (hs : ∀ n i a, i < N → I i a → L (n + 1) i a = L n (i + 1) (f i a)) (hI : ∀ i a, i < N → I i a → I (i + 1) (f i a)) (a : α) (h0 : I 0 a) :
    L FU 0 a = K (fo f N 0 a) ∧ I N (fo f N 0 a) := loopN L N K I f hx hs hI N 0 FU a (by omega) (Nat.lt_of_lt_of_le hN FU_ge) h0
theorem fo_congr {α : Type} {f g : Nat → α → α} : ∀ (d i : Nat) (a : α), (∀ j b, i ≤ j → j < i + d → f j b = g j b) → fo f d i a = fo g d i a := by
  intro d
  induction d with
  | zero => intro i a _; rfl
  | succ d ih =>
    intro i a h
    show fo f d (i + 1) (f i a) = fo g d (i + 1) (g i a)
    rw [h i a (Nat.le_refl _) (by omega)]
    exact ih (i + 1) _ (fun j b h1 h2 => h j b (by omega) (by omega))
theorem fo_inv {α : Type} (I : Nat → α → Prop) {f : Nat → α → α} : ∀ (d i : Nat) (a : α), I i a → (∀ j b, i ≤ j → j < i + d → I j b → I (j + 1) (f j b)) → I (i + d) (fo f d i a) := by
  intro d
  induction d with
  | zero => intro i a h _; exact h
  | succ d ih =>
    intro i a h hs
    have := ih (i + 1) (f i a) (hs i a (Nat.le_refl _) (by omega) h) (fun j b h1 h2 h3 => hs j b (by omega) (by omega) h3)
    rw [show i + (d + 1) = i + 1 + d by omega]
    exact this
/-- two runs side by side -/
theorem fo_rel {α β : Type} (I : Nat → α → β → Prop) {f : Nat → α → α} {g : Nat → β → β} : ∀ (d i : Nat) (a : α) (b : β), I i a b → (∀ j x y, i ≤ j → j < i + d → I j x y → I (j + 1) (f j x) (g j y)) → I (i + d) (fo f d i a) (fo g d i b) := by
  intro d
  induction d with
  | zero => intro i a b h _; exact h
  | succ d ih =>
    intro i a b h hs
    have := ih (i + 1) (f i a) (g i b) (hs i a b (Nat.le_refl _) (by omega) h) (fun j x y h1 h2 h3 => hs j x y (by omega) (by omega) h3)
    rw [show i + (d + 1) = i + 1 + d by omega]
    exact this
/-- sets -/
def bt (s k : Nat) : Nat := s / 2 ^ k % 2
def ins (s k : Nat) : Nat := if bt s k = 1 then s else s + 2 ^ k
theorem bt_all : ∀ s : Fin 128, ∀ k : Fin 7, (nI s.val >>> (nI k.val &&& 31)) &&& 1 = nI (bt s.val k.val) := by decide +kernel
theorem ins_all : ∀ s : Fin 128, ∀ k : Fin 7, nI s.val ||| ((1 : Int32) <<< (nI k.val &&& 31)) = nI (ins s.val k.val) := by decide +kernel
theorem insb_all : ∀ s : Fin 128, ∀ k : Fin 7, ∀ j : Fin 7, ins s.val k.val < 128 ∧ bt (ins s.val k.val) j.val = (if j.val = k.val then 1 else bt s.val j.val) := by decide +kernel
theorem sh_all : ∀ k : Fin 8, (1 : Int32) <<< (nI k.val &&& 31) = nI (2 ^ k.val) := by decide +kernel
theorem bt_nI {s k : Nat} (hs : s < 128) (hk : k < 7) : (nI s >>> (nI k &&& 31)) &&& 1 = nI (bt s k) := bt_all ⟨s, hs⟩ ⟨k, hk⟩
theorem ins_nI {s k : Nat} (hs : s < 128) (hk : k < 7) : nI s ||| ((1 : Int32) <<< (nI k &&& 31)) = nI (ins s k) := ins_all ⟨s, hs⟩ ⟨k, hk⟩
theorem ins_lt {s k : Nat} (hs : s < 128) (hk : k < 7) : ins s k < 128 := (insb_all ⟨s, hs⟩ ⟨k, hk⟩ ⟨0, by omega⟩).1
theorem bt_ins {s k j : Nat} (hs : s < 128) (hk : k < 7) (hj : j < 7) : bt (ins s k) j = if j = k then 1 else bt s j := (insb_all ⟨s, hs⟩ ⟨k, hk⟩ ⟨j, hj⟩).2
theorem sh_nI {k : Nat} (hk : k < 8) : (1 : Int32) <<< (nI k &&& 31) = nI (2 ^ k) := sh_all ⟨k, hk⟩
theorem bt_01 (s k : Nat) : bt s k = 0 ∨ bt s k = 1 := by unfold bt; omega
