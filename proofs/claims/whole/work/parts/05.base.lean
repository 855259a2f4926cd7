/-! THE WORLD OF THIS CLAIM: 151 cells behind the address b, named 0 .. 150 in the order in which they are made; what they hold is told by σ: name, place, number. -/
abbrev Sg : Type := Nat → Nat → Int32
/-- one number written -/
def st (σ : Sg) (n k : Nat) (v : Int32) : Sg := va_up σ n (upd (σ n) k v)
/-- a row written -/
def sr (σ : Sg) (n : Nat) (f : Nat → Int32) : Sg := va_up σ n f
/-- a name that is kept as a number -/
def dn (v : Int32) : Nat := v.toNatClampNeg
def lt {α β : Type} (v : α) (f : α → β) : β := f v
def bi {ρ : Type} (o : Option (Int32 × Sg)) (k : Int32 → Sg → Option ρ) : Option ρ := match o with
  | none => none
  | some q => k q.1 q.2
def bv {ρ : Type} (o : Option Sg) (k : Sg → Option ρ) : Option ρ := match o with
  | none => none
  | some q => k q
/-- how often a loop is tried -/
def FUx (n : Nat) : Nat := if n < 2000 then FUx (n + 1) else n
termination_by 2000 - n
def FU : Nat := FUx 0
theorem FUx_ge : ∀ (d n : Nat), n + d = 2000 → 2000 ≤ FUx n := by
  intro d
  induction d with
  | zero => intro n h; unfold FUx; rw [if_neg (by omega)]; omega
  | succ d ih => intro n h; unfold FUx; rw [if_pos (by omega)]; exact ih (n + 1) (by omega)
theorem FU_ge : 2000 ≤ FU := FUx_ge 2000 0 rfl
abbrev inb (i : Int32) (N : Nat) : Prop := ¬ (i < 0 ∨ N ≤ i.toNatClampNeg)
theorem tbl_ne {x k : Int32} {z : Int} (h : ¬ x = k) (hk : k.toInt = z) : x.toInt ≠ z := fun e => h (Int32.toInt_inj.mp (e.trans hk.symm))
/-- the cells, by their addresses -/
def wl (b N : Nat) (E : Nat → va_E) : va_W := (List.range N).map (fun j => (b + j, E j))
theorem wl_at (b : Nat) {N j : Nat} (E : Nat → va_E) (h : j < N) : (wl b N E)[j]? = some (b + j, E j) := by
  simp [wl, List.getElem?_map, List.getElem?_range h]
theorem wl_len (b N : Nat) (E : Nat → va_E) : (wl b N E).length = N := by simp [wl]
theorem wl_set (b N : Nat) (E : Nat → va_E) (j : Nat) (e : va_E) : (wl b N E).set j (b + j, e) = wl b N (va_up E j e) := by
  apply List.ext_getElem?
  intro i
  rw [List.getElem?_set]
  by_cases hi : i < N
  · rw [wl_at b _ hi, wl_at b _ hi, wl_len]
    by_cases hj : j = i
    · subst hj
      simp [hi, va_up]
    · simp [hj, va_up, Ne.symm hj]
  · have h1 : (wl b N E)[i]? = none := List.getElem?_eq_none (by rw [wl_len]; omega)
    have h2 : (wl b N (va_up E j e))[i]? = none := List.getElem?_eq_none (by rw [wl_len]; omega)
    rw [h1, h2, wl_len]
    by_cases hj : j = i
    · subst hj
      simp [hi]
    · simp [hj]
theorem wl_push (b N : Nat) (E : Nat → va_E) (e : va_E) : wl b N E ++ [(b + N, e)] = wl b (N + 1) (va_up E N e) := by
  unfold wl
  rw [List.range_succ, List.map_append]
  congr 1
  · apply List.map_congr_left
    intro a ha
    have : a ≠ N := Nat.ne_of_lt (List.mem_range.mp ha)
    simp [va_up, this]
  · simp [va_up]
theorem wl_D (b N : Nat) (E : Nat → va_E) : va_D (fun q => b ≤ q) (wl b N E) := by
  have key : ∀ (i : Nat) (p : Nat × va_E), (wl b N E)[i]? = some p → p.1 = b + i := by
    intro i p h
    have hi : i < N := by have := (List.getElem?_eq_some_iff.mp h).1; rwa [wl_len] at this
    rw [wl_at b E hi] at h
    rw [← Option.some.inj h]
  refine ⟨fun i j p q hp hq e => ?_, fun k q h => ?_⟩
  · have h1 := key i p hp
    have h2 := key j q hq
    omega
  · have h1 := key k q h
    show b ≤ q.1
    omega
theorem wl_congr {b N : Nat} {E F : Nat → va_E} (h : ∀ j, j < N → E j = F j) : wl b N E = wl b N F := by
  unfold wl
  apply List.map_congr_left
  intro a ha
  rw [h a (List.mem_range.mp ha)]
theorem gw {w : Cond} (h : w ∈ TT) : w ∈ TT ∧ ((w.onTables && w.keeps) = true ∨ ∃ ty, w = .arrayClass ty) := ⟨h, good_of_word (List.mem_filter.mp h).2⟩
abbrev tys3 (cI cZ cO : ClassId) : List (ClassId × FieldType) := [(cI, .int), (cZ, .boolean), (cO, .object "AnsweredFates$State")]
/-- what a method's walk stands on -/
def Cx (p : Program) (s : State) (m : MethodId) (args : Array Value) (meth : Method) (c : Code) (cc : ByteArray) (own : String) (nL : Nat) (ret : Option FieldType) (D : va_G) (cI cZ cO : ClassId) : Prop :=
  p.tables.exec = Jvm.exec ∧ c.code = cc ∧ c.maxLocals = nL ∧ s.vm.findClass own = some m.cls ∧ (∀ w ∈ TT, w.before args s = true) ∧ va_K D vwCl (tys3 cI cZ cO) s ∧ meth.sig.returnType = ret ∧ meth.locks = false
def kdL : List Nat := [11, 8, 13, 2, 4, 13, 13, 13, 13, 13, 13, 10, 13, 13, 13, 13, 0, 7, 15, 10, 13, 13, 13, 13, 10, 13, 13, 13, 13, 10, 13, 13, 13, 13, 10, 13, 13, 13, 13, 10, 13, 13, 13, 13, 10, 13, 13, 13, 13, 10, 13, 13, 13, 13, 10, 13, 13, 13, 13, 10, 13, 13, 13, 13, 10, 13, 13, 13, 13, 10, 13, 13, 13, 13, 10, 13, 13, 13, 13, 10, 13, 13, 13, 13, 10, 13, 13, 13, 13, 10, 13, 13, 13, 13, 10, 13, 13, 13, 13, 5, 14, 16, 13, 10, 13, 13, 13, 13, 10, 13, 13, 13, 13, 3, 9, 13, 13, 1, 13, 13, 6, 13, 13, 13, 13, 4, 13, 13, 13, 13, 13, 13, 12, 13, 13, 13, 13, 13, 13, 13, 13, 13, 13, 13, 13, 13, 13, 13, 13, 13, 14]
def lnL : List Nat := [0, 0, 240, 0, 0, 7, 7, 7, 7, 4, 4, 0, 7, 7, 7, 4, 0, 0, 16, 0, 7, 7, 7, 4, 0, 7, 7, 7, 4, 0, 7, 7, 7, 4, 0, 7, 7, 7, 4, 0, 7, 7, 7, 4, 0, 7, 7, 7, 4, 0, 7, 7, 7, 4, 0, 7, 7, 7, 4, 0, 7, 7, 7, 4, 0, 7, 7, 7, 4, 0, 7, 7, 7, 4, 0, 7, 7, 7, 4, 0, 7, 7, 7, 4, 0, 7, 7, 7, 4, 0, 7, 7, 7, 4, 0, 7, 7, 7, 4, 0, 2, 2, 2, 0, 7, 7, 7, 4, 0, 7, 7, 7, 4, 0, 0, 6, 24, 0, 15, 15, 0, 7, 7, 49, 1024, 0, 7, 7, 7, 7, 4, 4, 0, 7, 7, 7, 60, 240, 4, 7, 7, 7, 7, 480, 1024, 6, 24, 15, 15, 62, 2]
/-- the kind of a name: 0 .. 12 an object of that class, 13 a row of ints, 14 of booleans, 15, 16 of states -/
def kd (n : Nat) : Nat := kdL.getD n 99
def ln (n : Nat) : Nat := lnL.getD n 0
theorem kd_lt {n k : Nat} (h : kd n = k) (hk : k ≠ 99) : n < 151 := by
  rcases Nat.lt_or_ge n 151 with q | q
  · exact q
  · exfalso
    apply hk
    rw [← h]
    unfold kd
    rw [List.getD_eq_getElem?_getD, List.getElem?_eq_none (by exact q)]
    rfl
def ent (b : Nat) (cI cZ cO : ClassId) (σ : Sg) (n : Nat) : va_E := match kd n with
  | 0 => .inr (0, [.int (σ n 0), .int (σ n 1)])
  | 1 => .inr (1, [.int (σ n 0), .ref (b + (n + 1)), .ref (b + (n + 2))])
  | 2 => .inr (2, [.ref (b + dn (σ n 0)), .ref (b + (n + 8)), .ref (b + (n + 13))])
  | 3 => .inr (3, [.int (σ n 0)])
  | 4 => .inr (4, [.int (σ n 0), .int (σ n 1), .int (σ n 2), .int (σ n 3), .int (σ n 4), .ref (b + (n + 1)), .ref (b + (n + 2)), .ref (b + (n + 3)), .ref (b + (n + 4)), .ref (b + (n + 5)), .ref (b + (n + 6))])
  | 5 => .inr (5, [.ref (b + (n + 1)), .ref (b + (n + 2)), .ref (b + (n + 3))])
  | 6 => .inr (6, [.ref (b + (n + 1)), .ref (b + (n + 2)), .ref (b + (n + 3)), .ref (b + (n + 4)), .int (σ n 4)])
  | 7 => .inr (7, [.int (σ n 0), .int (σ n 1), .ref (b + (n + 1))])
  | 8 => .inr (8, [.ref (b + (n + 1)), .int (σ n 1), .int (σ n 2), .int (σ n 3), .int (σ n 4), .int (σ n 5)])
  | 9 => .inr (9, [.int (σ n 0), .ref (b + (n + 1)), .ref (b + (n + 2))])
  | 10 => .inr (10, [.int (σ n 0), .int (σ n 1), .int (σ n 2), .int (σ n 3), .int (σ n 4), .ref (b + (n + 1)), .ref (b + (n + 2)), .ref (b + (n + 3)), .ref (b + (n + 4))])
  | 11 => .inr (11, [.ref (b + (n + 1)), .ref (b + (n + 3)), .ref (b + (n + 17)), .ref (b + (n + 99)), .ref (b + (n + 113)), .ref (b + (n + 114)), .ref (b + (n + 117)), .ref (b + (n + 120)), .ref (b + dn (σ n 8))])
  | 12 => .inr (12, [.int (σ n 0), .int (σ n 1), .int (σ n 2), .int (σ n 3), .ref (b + (n + 1)), .ref (b + (n + 2)), .ref (b + (n + 3)), .ref (b + (n + 4)), .int (σ n 8), .ref (b + (n + 5)), .int (σ n 10), .int (σ n 11), .int (σ n 12), .int (σ n 13), .int (σ n 14), .int (σ n 15), .int (σ n 16), .int (σ n 17), .ref (b + (n + 6)), .ref (b + (n + 7)), .ref (b + (n + 8)), .ref (b + (n + 9)), .ref (b + (n + 10)), .int (σ n 23), .int (σ n 24), .int (σ n 25), .ref (b + (n + 11)), .ref (b + (n + 12)), .int (σ n 28), .ref (b + (n + 13)), .ref (b + (n + 14)), .int (σ n 31), .ref (b + (n + 15)), .ref (b + (n + 16)), .ref (b + (n + 17)), .ref (b + (n + 18))])
  | 14 => .inl (cZ, ln n, .inl (σ n))
  | 15 => .inl (cO, 16, .inr (.inr (.inr (.inr (fun i => some (b + (n + 1 + 5 * i)))))))
  | 16 => .inl (cO, 2, .inr (.inr (.inr (.inr (fun i => some (b + (n + 2 + 5 * i)))))))
  | _ => .inl (cI, ln n, .inl (σ n))
theorem ent_0 (b : Nat) (cI cZ cO : ClassId) (σ : Sg) {n : Nat} (hk : kd n = 0) : ent b cI cZ cO σ n = .inr (0, [.int (σ n 0), .int (σ n 1)]) := by simp only [ent, hk]
theorem ent_1 (b : Nat) (cI cZ cO : ClassId) (σ : Sg) {n : Nat} (hk : kd n = 1) : ent b cI cZ cO σ n = .inr (1, [.int (σ n 0), .ref (b + (n + 1)), .ref (b + (n + 2))]) := by simp only [ent, hk]
theorem ent_2 (b : Nat) (cI cZ cO : ClassId) (σ : Sg) {n : Nat} (hk : kd n = 2) : ent b cI cZ cO σ n = .inr (2, [.ref (b + dn (σ n 0)), .ref (b + (n + 8)), .ref (b + (n + 13))]) := by simp only [ent, hk]
theorem ent_3 (b : Nat) (cI cZ cO : ClassId) (σ : Sg) {n : Nat} (hk : kd n = 3) : ent b cI cZ cO σ n = .inr (3, [.int (σ n 0)]) := by simp only [ent, hk]
theorem ent_4 (b : Nat) (cI cZ cO : ClassId) (σ : Sg) {n : Nat} (hk : kd n = 4) : ent b cI cZ cO σ n = .inr (4, [.int (σ n 0), .int (σ n 1), .int (σ n 2), .int (σ n 3), .int (σ n 4), .ref (b + (n + 1)), .ref (b + (n + 2)), .ref (b + (n + 3)), .ref (b + (n + 4)), .ref (b + (n + 5)), .ref (b + (n + 6))]) := by simp only [ent, hk]
theorem ent_5 (b : Nat) (cI cZ cO : ClassId) (σ : Sg) {n : Nat} (hk : kd n = 5) : ent b cI cZ cO σ n = .inr (5, [.ref (b + (n + 1)), .ref (b + (n + 2)), .ref (b + (n + 3))]) := by simp only [ent, hk]
theorem ent_6 (b : Nat) (cI cZ cO : ClassId) (σ : Sg) {n : Nat} (hk : kd n = 6) : ent b cI cZ cO σ n = .inr (6, [.ref (b + (n + 1)), .ref (b + (n + 2)), .ref (b + (n + 3)), .ref (b + (n + 4)), .int (σ n 4)]) := by simp only [ent, hk]
theorem ent_7 (b : Nat) (cI cZ cO : ClassId) (σ : Sg) {n : Nat} (hk : kd n = 7) : ent b cI cZ cO σ n = .inr (7, [.int (σ n 0), .int (σ n 1), .ref (b + (n + 1))]) := by simp only [ent, hk]
theorem ent_8 (b : Nat) (cI cZ cO : ClassId) (σ : Sg) {n : Nat} (hk : kd n = 8) : ent b cI cZ cO σ n = .inr (8, [.ref (b + (n + 1)), .int (σ n 1), .int (σ n 2), .int (σ n 3), .int (σ n 4), .int (σ n 5)]) := by simp only [ent, hk]
theorem ent_9 (b : Nat) (cI cZ cO : ClassId) (σ : Sg) {n : Nat} (hk : kd n = 9) : ent b cI cZ cO σ n = .inr (9, [.int (σ n 0), .ref (b + (n + 1)), .ref (b + (n + 2))]) := by simp only [ent, hk]
theorem ent_10 (b : Nat) (cI cZ cO : ClassId) (σ : Sg) {n : Nat} (hk : kd n = 10) : ent b cI cZ cO σ n = .inr (10, [.int (σ n 0), .int (σ n 1), .int (σ n 2), .int (σ n 3), .int (σ n 4), .ref (b + (n + 1)), .ref (b + (n + 2)), .ref (b + (n + 3)), .ref (b + (n + 4))]) := by simp only [ent, hk]
theorem ent_11 (b : Nat) (cI cZ cO : ClassId) (σ : Sg) {n : Nat} (hk : kd n = 11) : ent b cI cZ cO σ n = .inr (11, [.ref (b + (n + 1)), .ref (b + (n + 3)), .ref (b + (n + 17)), .ref (b + (n + 99)), .ref (b + (n + 113)), .ref (b + (n + 114)), .ref (b + (n + 117)), .ref (b + (n + 120)), .ref (b + dn (σ n 8))]) := by simp only [ent, hk]
theorem ent_12 (b : Nat) (cI cZ cO : ClassId) (σ : Sg) {n : Nat} (hk : kd n = 12) : ent b cI cZ cO σ n = .inr (12, [.int (σ n 0), .int (σ n 1), .int (σ n 2), .int (σ n 3), .ref (b + (n + 1)), .ref (b + (n + 2)), .ref (b + (n + 3)), .ref (b + (n + 4)), .int (σ n 8), .ref (b + (n + 5)), .int (σ n 10), .int (σ n 11), .int (σ n 12), .int (σ n 13), .int (σ n 14), .int (σ n 15), .int (σ n 16), .int (σ n 17), .ref (b + (n + 6)), .ref (b + (n + 7)), .ref (b + (n + 8)), .ref (b + (n + 9)), .ref (b + (n + 10)), .int (σ n 23), .int (σ n 24), .int (σ n 25), .ref (b + (n + 11)), .ref (b + (n + 12)), .int (σ n 28), .ref (b + (n + 13)), .ref (b + (n + 14)), .int (σ n 31), .ref (b + (n + 15)), .ref (b + (n + 16)), .ref (b + (n + 17)), .ref (b + (n + 18))]) := by simp only [ent, hk]
theorem ent_13 (b : Nat) (cI cZ cO : ClassId) (σ : Sg) {n : Nat} (hk : kd n = 13) : ent b cI cZ cO σ n = .inl (cI, ln n, .inl (σ n)) := by simp only [ent, hk]
theorem ent_14 (b : Nat) (cI cZ cO : ClassId) (σ : Sg) {n : Nat} (hk : kd n = 14) : ent b cI cZ cO σ n = .inl (cZ, ln n, .inl (σ n)) := by simp only [ent, hk]
theorem ent_15 (b : Nat) (cI cZ cO : ClassId) (σ : Sg) {n : Nat} (hk : kd n = 15) : ent b cI cZ cO σ n = .inl (cO, 16, .inr (.inr (.inr (.inr (fun i => some (b + (n + 1 + 5 * i))))))) := by simp only [ent, hk]
theorem ent_16 (b : Nat) (cI cZ cO : ClassId) (σ : Sg) {n : Nat} (hk : kd n = 16) : ent b cI cZ cO σ n = .inl (cO, 2, .inr (.inr (.inr (.inr (fun i => some (b + (n + 2 + 5 * i))))))) := by simp only [ent, hk]
theorem ent_ne (b : Nat) (cI cZ cO : ClassId) (σ : Sg) (n : Nat) (f : Nat → Int32) {j : Nat} (h : j ≠ n) : ent b cI cZ cO (va_up σ n f) j = ent b cI cZ cO σ j := by
  unfold ent
  rw [va_up_ne _ _ h]
theorem up_13 (b : Nat) (cI cZ cO : ClassId) (σ : Sg) {n : Nat} (hk : kd n = 13) (f : Nat → Int32) (j : Nat) : va_up (ent b cI cZ cO σ) n (.inl (cI, ln n, .inl f)) j = ent b cI cZ cO (va_up σ n f) j := by
  by_cases h : j = n
  · subst h
    rw [va_up_self, ent_13 b cI cZ cO _ hk, va_up_self]
  · rw [va_up_ne _ _ h, ent_ne b cI cZ cO σ n f h]
theorem up_14 (b : Nat) (cI cZ cO : ClassId) (σ : Sg) {n : Nat} (hk : kd n = 14) (f : Nat → Int32) (j : Nat) : va_up (ent b cI cZ cO σ) n (.inl (cZ, ln n, .inl f)) j = ent b cI cZ cO (va_up σ n f) j := by
  by_cases h : j = n
  · subst h
    rw [va_up_self, ent_14 b cI cZ cO _ hk, va_up_self]
  · rw [va_up_ne _ _ h, ent_ne b cI cZ cO σ n f h]
theorem kS_all : ∀ n, n < 151 → kd n = 10 → (kd (n + 1) = 13 ∧ ln (n + 1) = 7) ∧ (kd (n + 2) = 13 ∧ ln (n + 2) = 7) ∧ (kd (n + 3) = 13 ∧ ln (n + 3) = 7) ∧ (kd (n + 4) = 13 ∧ ln (n + 4) = 4) := by decide +kernel
theorem kH_all : ∀ n, n < 151 → kd n = 4 → (kd (n + 1) = 13 ∧ ln (n + 1) = 7) ∧ (kd (n + 2) = 13 ∧ ln (n + 2) = 7) ∧ (kd (n + 3) = 13 ∧ ln (n + 3) = 7) ∧ (kd (n + 4) = 13 ∧ ln (n + 4) = 7) ∧ (kd (n + 5) = 13 ∧ ln (n + 5) = 4) ∧ (kd (n + 6) = 13 ∧ ln (n + 6) = 4) := by decide +kernel
theorem kS1 {n : Nat} (h : kd n = 10) : kd (n + 1) = 13 := (kS_all n (kd_lt h (by decide)) h).1.1
theorem lS1 {n : Nat} (h : kd n = 10) : ln (n + 1) = 7 := (kS_all n (kd_lt h (by decide)) h).1.2
theorem kS2 {n : Nat} (h : kd n = 10) : kd (n + 2) = 13 := (kS_all n (kd_lt h (by decide)) h).2.1.1
theorem lS2 {n : Nat} (h : kd n = 10) : ln (n + 2) = 7 := (kS_all n (kd_lt h (by decide)) h).2.1.2
theorem kS3 {n : Nat} (h : kd n = 10) : kd (n + 3) = 13 := (kS_all n (kd_lt h (by decide)) h).2.2.1.1
theorem lS3 {n : Nat} (h : kd n = 10) : ln (n + 3) = 7 := (kS_all n (kd_lt h (by decide)) h).2.2.1.2
theorem kS4 {n : Nat} (h : kd n = 10) : kd (n + 4) = 13 := (kS_all n (kd_lt h (by decide)) h).2.2.2.1
theorem lS4 {n : Nat} (h : kd n = 10) : ln (n + 4) = 4 := (kS_all n (kd_lt h (by decide)) h).2.2.2.2
theorem kH1 {n : Nat} (h : kd n = 4) : kd (n + 1) = 13 := (kH_all n (kd_lt h (by decide)) h).1.1
theorem lH1 {n : Nat} (h : kd n = 4) : ln (n + 1) = 7 := (kH_all n (kd_lt h (by decide)) h).1.2
theorem kH2 {n : Nat} (h : kd n = 4) : kd (n + 2) = 13 := (kH_all n (kd_lt h (by decide)) h).2.1.1
theorem lH2 {n : Nat} (h : kd n = 4) : ln (n + 2) = 7 := (kH_all n (kd_lt h (by decide)) h).2.1.2
theorem kH3 {n : Nat} (h : kd n = 4) : kd (n + 3) = 13 := (kH_all n (kd_lt h (by decide)) h).2.2.1.1
theorem lH3 {n : Nat} (h : kd n = 4) : ln (n + 3) = 7 := (kH_all n (kd_lt h (by decide)) h).2.2.1.2
theorem kH4 {n : Nat} (h : kd n = 4) : kd (n + 4) = 13 := (kH_all n (kd_lt h (by decide)) h).2.2.2.1.1
theorem lH4 {n : Nat} (h : kd n = 4) : ln (n + 4) = 7 := (kH_all n (kd_lt h (by decide)) h).2.2.2.1.2
theorem kH5 {n : Nat} (h : kd n = 4) : kd (n + 5) = 13 := (kH_all n (kd_lt h (by decide)) h).2.2.2.2.1.1
theorem lH5 {n : Nat} (h : kd n = 4) : ln (n + 5) = 4 := (kH_all n (kd_lt h (by decide)) h).2.2.2.2.1.2
theorem kH6 {n : Nat} (h : kd n = 4) : kd (n + 6) = 13 := (kH_all n (kd_lt h (by decide)) h).2.2.2.2.2.1
theorem lH6 {n : Nat} (h : kd n = 4) : ln (n + 6) = 4 := (kH_all n (kd_lt h (by decide)) h).2.2.2.2.2.2
theorem kd_0 : kd 0 = 11 := by decide +kernel
theorem kd_1 : kd 1 = 8 := by decide +kernel
theorem kd_2 : kd 2 = 13 := by decide +kernel
theorem ln_2 : ln 2 = 240 := by decide +kernel
theorem kd_3 : kd 3 = 2 := by decide +kernel
theorem kd_4 : kd 4 = 4 := by decide +kernel
theorem kd_5 : kd 5 = 13 := by decide +kernel
theorem ln_5 : ln 5 = 7 := by decide +kernel
theorem kd_6 : kd 6 = 13 := by decide +kernel
theorem ln_6 : ln 6 = 7 := by decide +kernel
theorem kd_7 : kd 7 = 13 := by decide +kernel
theorem ln_7 : ln 7 = 7 := by decide +kernel
theorem kd_8 : kd 8 = 13 := by decide +kernel
theorem ln_8 : ln 8 = 7 := by decide +kernel
theorem kd_9 : kd 9 = 13 := by decide +kernel
theorem ln_9 : ln 9 = 4 := by decide +kernel
theorem kd_10 : kd 10 = 13 := by decide +kernel
theorem ln_10 : ln 10 = 4 := by decide +kernel
theorem kd_11 : kd 11 = 10 := by decide +kernel
theorem kd_12 : kd 12 = 13 := by decide +kernel
theorem ln_12 : ln 12 = 7 := by decide +kernel
theorem kd_13 : kd 13 = 13 := by decide +kernel
theorem ln_13 : ln 13 = 7 := by decide +kernel
theorem kd_14 : kd 14 = 13 := by decide +kernel
theorem ln_14 : ln 14 = 7 := by decide +kernel
theorem kd_15 : kd 15 = 13 := by decide +kernel
theorem ln_15 : ln 15 = 4 := by decide +kernel
theorem kd_16 : kd 16 = 0 := by decide +kernel
theorem kd_17 : kd 17 = 7 := by decide +kernel
theorem kd_18 : kd 18 = 15 := by decide +kernel
theorem ln_18 : ln 18 = 16 := by decide +kernel
theorem kd_99 : kd 99 = 5 := by decide +kernel
theorem kd_100 : kd 100 = 14 := by decide +kernel
theorem ln_100 : ln 100 = 2 := by decide +kernel
theorem kd_101 : kd 101 = 16 := by decide +kernel
theorem ln_101 : ln 101 = 2 := by decide +kernel
theorem kd_102 : kd 102 = 13 := by decide +kernel
theorem ln_102 : ln 102 = 2 := by decide +kernel
theorem kd_113 : kd 113 = 3 := by decide +kernel
theorem kd_114 : kd 114 = 9 := by decide +kernel
theorem kd_115 : kd 115 = 13 := by decide +kernel
theorem ln_115 : ln 115 = 6 := by decide +kernel
theorem kd_116 : kd 116 = 13 := by decide +kernel
theorem ln_116 : ln 116 = 24 := by decide +kernel
theorem kd_117 : kd 117 = 1 := by decide +kernel
theorem kd_118 : kd 118 = 13 := by decide +kernel
theorem ln_118 : ln 118 = 15 := by decide +kernel
theorem kd_119 : kd 119 = 13 := by decide +kernel
theorem ln_119 : ln 119 = 15 := by decide +kernel
theorem kd_120 : kd 120 = 6 := by decide +kernel
theorem kd_121 : kd 121 = 13 := by decide +kernel
theorem ln_121 : ln 121 = 7 := by decide +kernel
theorem kd_122 : kd 122 = 13 := by decide +kernel
theorem ln_122 : ln 122 = 7 := by decide +kernel
theorem kd_123 : kd 123 = 13 := by decide +kernel
theorem ln_123 : ln 123 = 49 := by decide +kernel
theorem kd_124 : kd 124 = 13 := by decide +kernel
theorem ln_124 : ln 124 = 1024 := by decide +kernel
theorem kd_125 : kd 125 = 4 := by decide +kernel
theorem kd_126 : kd 126 = 13 := by decide +kernel
theorem ln_126 : ln 126 = 7 := by decide +kernel
theorem kd_127 : kd 127 = 13 := by decide +kernel
theorem ln_127 : ln 127 = 7 := by decide +kernel
theorem kd_128 : kd 128 = 13 := by decide +kernel
theorem ln_128 : ln 128 = 7 := by decide +kernel
theorem kd_129 : kd 129 = 13 := by decide +kernel
theorem ln_129 : ln 129 = 7 := by decide +kernel
theorem kd_130 : kd 130 = 13 := by decide +kernel
theorem ln_130 : ln 130 = 4 := by decide +kernel
theorem kd_131 : kd 131 = 13 := by decide +kernel
theorem ln_131 : ln 131 = 4 := by decide +kernel
theorem kd_132 : kd 132 = 12 := by decide +kernel
theorem kd_133 : kd 133 = 13 := by decide +kernel
theorem ln_133 : ln 133 = 7 := by decide +kernel
theorem kd_134 : kd 134 = 13 := by decide +kernel
theorem ln_134 : ln 134 = 7 := by decide +kernel
theorem kd_135 : kd 135 = 13 := by decide +kernel
theorem ln_135 : ln 135 = 7 := by decide +kernel
theorem kd_136 : kd 136 = 13 := by decide +kernel
theorem ln_136 : ln 136 = 60 := by decide +kernel
theorem kd_137 : kd 137 = 13 := by decide +kernel
theorem ln_137 : ln 137 = 240 := by decide +kernel
theorem kd_138 : kd 138 = 13 := by decide +kernel
theorem ln_138 : ln 138 = 4 := by decide +kernel
theorem kd_139 : kd 139 = 13 := by decide +kernel
theorem ln_139 : ln 139 = 7 := by decide +kernel
theorem kd_140 : kd 140 = 13 := by decide +kernel
theorem ln_140 : ln 140 = 7 := by decide +kernel
theorem kd_141 : kd 141 = 13 := by decide +kernel
theorem ln_141 : ln 141 = 7 := by decide +kernel
theorem kd_142 : kd 142 = 13 := by decide +kernel
theorem ln_142 : ln 142 = 7 := by decide +kernel
theorem kd_143 : kd 143 = 13 := by decide +kernel
theorem ln_143 : ln 143 = 480 := by decide +kernel
theorem kd_144 : kd 144 = 13 := by decide +kernel
theorem ln_144 : ln 144 = 1024 := by decide +kernel
theorem kd_145 : kd 145 = 13 := by decide +kernel
theorem ln_145 : ln 145 = 6 := by decide +kernel
theorem kd_146 : kd 146 = 13 := by decide +kernel
theorem ln_146 : ln 146 = 24 := by decide +kernel
theorem kd_147 : kd 147 = 13 := by decide +kernel
theorem ln_147 : ln 147 = 15 := by decide +kernel
theorem kd_148 : kd 148 = 13 := by decide +kernel
theorem ln_148 : ln 148 = 15 := by decide +kernel
theorem kd_149 : kd 149 = 13 := by decide +kernel
theorem ln_149 : ln 149 = 62 := by decide +kernel
theorem kd_150 : kd 150 = 14 := by decide +kernel
theorem ln_150 : ln 150 = 2 := by decide +kernel
theorem dn_nI {n : Nat} (h : n < 151) : dn (nI n) = n := nI_clamp (by omega)
/-- a cell of a kind -/
def gk {ρ : Type} (k n : Nat) (f : Nat → Option ρ) : Option ρ := if kd n = k then f n else none
theorem gkE {ρ : Type} {k n : Nat} {f : Nat → Option ρ} {r : ρ} (hs : gk k n f = some r) : ∃ y, n = y ∧ kd y = k ∧ f y = some r := by
  unfold gk at hs
  by_cases h : kd n = k
  · rw [if_pos h] at hs; exact ⟨n, rfl, h, hs⟩
  · rw [if_neg h] at hs; cases hs
/-- the heap holds the world of σ, and nothing else has changed since H0 -/
def Gd (b : Nat) (D : va_G) (cI cZ cO : ClassId) (σ : Sg) (H0 H : Heap) (locs : List Loc) : Prop := va_P D vwCl (wl b 151 (ent b cI cZ cO σ)) H ∧ va_S (fun q => b ≤ q) H0 H locs
def Wd (b : Nat) (D : va_G) (cI cZ cO : ClassId) (σ : Sg) (U : State) : Prop := va_P D vwCl (wl b 151 (ent b cI cZ cO σ)) U.heap ∧ va_K D vwCl (tys3 cI cZ cO) U
def QI (b : Nat) (D : va_G) (cI cZ cO : ClassId) (Rr : Int32 × Sg) : Array Value → State → Outcome → State → Prop := va_Qi (fun (r : Int32) (u : Sg) => (r, u) = Rr) (Wd b D cI cZ cO) (fun q => b ≤ q)
def QV (b : Nat) (D : va_G) (cI cZ cO : ClassId) (Rr : Sg) : Array Value → State → Outcome → State → Prop := va_Qv (fun (u : Sg) => u = Rr) (Wd b D cI cZ cO) (fun q => b ≤ q)
/-- a method's contract: it answers Rr -/
def MI (l : Launch) (y : MethodName) (cc : ByteArray) (nL : Nat) (ret : Option FieldType) (rm : Room) (av : List Value) (b : Nat) (D : va_G) (cI cZ cO : ClassId) (σ : Sg) (Rr : Int32 × Sg) : Prop := Met l y (Cond.code y cc nL ret :: TT) rm (va_Pc av (Wd b D cI cZ cO σ)) (QI b D cI cZ cO Rr) 0 0 (fun q => b ≤ q)
def MV (l : Launch) (y : MethodName) (cc : ByteArray) (nL : Nat) (rm : Room) (av : List Value) (b : Nat) (D : va_G) (cI cZ cO : ClassId) (σ : Sg) (Rr : Sg) : Prop := Met l y (Cond.code y cc nL none :: TT) rm (va_Pc av (Wd b D cI cZ cO σ)) (QV b D cI cZ cO Rr) 0 0 (fun q => b ≤ q)
theorem ifT {α : Type} {c : Prop} {_ : Decidable c} {a b : Option α} {r : α} (h : c) (hs : (if c then a else b) = some r) : a = some r := by rw [if_pos h] at hs; exact hs
theorem ifF {α : Type} {c : Prop} {_ : Decidable c} {a b : Option α} {r : α} (h : ¬ c) (hs : (if c then a else b) = some r) : b = some r := by rw [if_neg h] at hs; exact hs
theorem gdE {α : Type} {c : Prop} {_ : Decidable c} {a : Option α} {r : α} (hs : (if c then a else none) = some r) : c ∧ a = some r := by
  by_cases h : c
  · rw [if_pos h] at hs; exact ⟨h, hs⟩
  · rw [if_neg h] at hs; cases hs
theorem biE {ρ : Type} {o : Option (Int32 × Sg)} {k : Int32 → Sg → Option ρ} {r : ρ} (hs : bi o k = some r) : ∃ v u, o = some (v, u) ∧ k v u = some r := by
  cases o with
  | none => cases hs
  | some q => exact ⟨q.1, q.2, rfl, hs⟩
theorem bvE {ρ : Type} {o : Option Sg} {k : Sg → Option ρ} {r : ρ} (hs : bv o k = some r) : ∃ u, o = some u ∧ k u = some r := by
  cases o with
  | none => cases hs
  | some q => exact ⟨q, rfl, hs⟩
theorem ltE {α ρ : Type} {v : α} {f : α → Option ρ} {r : ρ} (hs : lt v f = some r) : ∃ y, y = v ∧ f y = some r := ⟨v, rfl, hs⟩
section MRows
variable {p : Program} {l : Launch} {e : Env} {R : Room} {s : State} {m : MethodId} {args : Array Value} {below : List Frame} {meth : Method} {c : Code} {H : Heap} {locs : List Loc} {cells slots : Nat} {Q : State → Prop}
variable {cc : ByteArray} {own : String} {nL : Nat} {ret : Option FieldType} {D : va_G} {cI cZ cO : ClassId} {b : Nat} {σ : Sg} {H0 : Heap} {pc : Nat} {ls : Array Slot} {rest : List Value}
theorem topI {ρ : Type} {Rr : ρ} {x : Int32} {f : Int32 → Option ρ} (hs : lt x f = some Rr) (k : ∀ y : Int32, f y = some Rr → W p l e R s m args below meth c H locs cells slots Q (F0 m pc ls (.int y :: rest))) : W p l e R s m args below meth c H locs cells slots Q (F0 m pc ls (.int x :: rest)) := k x hs
theorem topL {ρ : Type} {Rr : ρ} {x : Int64} {f : Int64 → Option ρ} (hs : lt x f = some Rr) (k : ∀ y : Int64, f y = some Rr → W p l e R s m args below meth c H locs cells slots Q (F0 m pc ls (.long y :: rest))) : W p l e R s m args below meth c H locs cells slots Q (F0 m pc ls (.long x :: rest)) := k x hs
theorem m_get (C : Cx p s m args meth c cc own nL ret D cI cZ cO) (G : Gd b D cI cZ cO σ H0 H locs) {n ci N index : Nat} {T : u_T} {C0 ref : String} {fs : List Value} (hn : n < 151) (he : ent b cI cZ cO σ n = .inr (ci, fs)) (hc : vwCl[ci]? = some (C0, T, N)) (hin : ∀ w ∈ u_ws C0 T N, w ∈ TT) (k : Nat) (hk : k < N) (hlink : Cond.fieldLink own index ref (T k).2.1 (T k).2.2.1 ∈ TT) (href : (T k).1 = ref) {v : Value} (hv : fs[k]? = some v) (hdg : decode cc pc = .ok (.getfield index, 3))
    (kk : W p l e R s m args below meth c H locs cells slots Q (F0 m (pc + 3) ls (v :: rest))) : W p l e R s m args below meth c H locs cells slots Q (F0 m pc ls (.ref (b + n) :: rest)) := by
  obtain ⟨hx, hb, hml, hown, hts, hK, hr, hlocks⟩ := C
  subst href
  exact va_get hx hb hts hin hown hK G.1 n (by rw [wl_at b _ hn, he]) hc k hk (hts _ hlink) (fun _ h9 => h9) hv hdg kk
theorem m_put {ρ : Type} {Rr : ρ} {f : Sg → Option ρ} (C : Cx p s m args meth c cc own nL ret D cI cZ cO) (G : Gd b D cI cZ cO σ H0 H locs) {n ci N index : Nat} {T : u_T} {C0 ref : String} {fs : List Value} (hn : n < 151) (he : ent b cI cZ cO σ n = .inr (ci, fs)) (hc : vwCl[ci]? = some (C0, T, N)) (hin : ∀ w ∈ u_ws C0 T N, w ∈ TT) (ty0 : Nat → FieldType) (hty : ∀ k, k < N → parseFieldDescriptor (T k).2.2.1 = some (ty0 k)) (hnm : ∀ a, a < N → ∀ b, b < N → a ≠ b → (T a).2.1 ≠ (T b).2.1) (k : Nat) (hk : k < N) (hlink : Cond.fieldLink own index ref (T k).2.1 (T k).2.2.1 ∈ TT) (href : (T k).1 = ref) (hfin : (T k).2.2.2 = false) {v : Value} {ty : FieldType} (hd : parseFieldDescriptor (T k).2.2.1 = some ty) (hnar : narrow ty v = v) (hfit : fits ty v = true) (hl : k < fs.length) {σ' : Sg} (hup : ∀ j, va_up (ent b cI cZ cO σ) n (.inr (ci, fs.set k v)) j = ent b cI cZ cO σ' j) (hs : lt σ' f = some Rr) (hdg : decode cc pc = .ok (.putfield index, 3))
    (kk : ∀ (σ1 : Sg) (H1 : Heap) (locs1 : List Loc), f σ1 = some Rr → Gd b D cI cZ cO σ1 H0 H1 locs1 → W p l e R s m args below meth c H1 locs1 cells slots Q (F0 m (pc + 3) ls rest)) : W p l e R s m args below meth c H locs cells slots Q (F0 m pc ls (v :: .ref (b + n) :: rest)) := by
  obtain ⟨hx, hb, hml, hown, hts, hK, hr, hlocks⟩ := C
  subst href
  refine va_put hx hb hts hin ty0 hty hnm hown hK G.1 (wl_D b 151 _) G.2 n (by rw [wl_at b _ hn, he]) hc k hk (hts _ hlink) (fun _ h9 => h9) hfin hd hnar hfit hl hdg (fun H1 locs1 hP1 _ hS1 => ?_)
  rw [wl_set, wl_congr (fun j _ => hup j)] at hP1
  exact kk σ' H1 locs1 hs ⟨hP1, hS1⟩
theorem m_iald (C : Cx p s m args meth c cc own nL ret D cI cZ cO) (G : Gd b D cI cZ cO σ H0 H locs) {n N : Nat} (hk : kd n = 13) (hN : ln n = N) {i : Int32} (hin : vp_in i N) (hdg : decode cc pc = .ok (.iaload, 1))
    (kk : W p l e R s m args below meth c H locs cells slots Q (F0 m (pc + 1) ls (.int (σ n i.toNatClampNeg) :: rest))) : W p l e R s m args below meth c H locs cells slots Q (F0 m pc ls (.int i :: .ref (b + n) :: rest)) := by
  obtain ⟨hx, hb, hml, hown, hts, hK, hr, hlocks⟩ := C
  subst hN
  exact va_iald hx hb hK G.1 n 0 (by rw [wl_at b _ (kd_lt hk (by decide)), ent_13 b cI cZ cO σ hk]) rfl hin hdg kk
theorem m_iast {ρ : Type} {Rr : ρ} {f : Sg → Option ρ} (C : Cx p s m args meth c cc own nL ret D cI cZ cO) (G : Gd b D cI cZ cO σ H0 H locs) {n N : Nat} (hk : kd n = 13) (hN : ln n = N) {i x : Int32} (hin : vp_in i N) (hs : lt (st σ n i.toNatClampNeg x) f = some Rr) (hdg : decode cc pc = .ok (.iastore, 1))
    (kk : ∀ (σ1 : Sg) (H1 : Heap) (locs1 : List Loc), f σ1 = some Rr → Gd b D cI cZ cO σ1 H0 H1 locs1 → W p l e R s m args below meth c H1 locs1 cells slots Q (F0 m (pc + 1) ls rest)) : W p l e R s m args below meth c H locs cells slots Q (F0 m pc ls (.int x :: .int i :: .ref (b + n) :: rest)) := by
  obtain ⟨hx, hb, hml, hown, hts, hK, hr, hlocks⟩ := C
  subst hN
  refine va_iast hx hb hK G.1 (wl_D b 151 _) G.2 n 0 (by rw [wl_at b _ (kd_lt hk (by decide)), ent_13 b cI cZ cO σ hk]) rfl hin hdg (fun H1 locs1 hP1 _ hS1 => ?_)
  rw [wl_set, wl_congr (fun j _ => up_13 b cI cZ cO σ hk _ j)] at hP1
  exact kk _ H1 locs1 hs ⟨hP1, hS1⟩
theorem m_zald (C : Cx p s m args meth c cc own nL ret D cI cZ cO) (G : Gd b D cI cZ cO σ H0 H locs) {n N : Nat} (hk : kd n = 14) (hN : ln n = N) {i : Int32} (hin : vp_in i N) (hdg : decode cc pc = .ok (.baload, 1))
    (kk : W p l e R s m args below meth c H locs cells slots Q (F0 m (pc + 1) ls (.int (σ n i.toNatClampNeg) :: rest))) : W p l e R s m args below meth c H locs cells slots Q (F0 m pc ls (.int i :: .ref (b + n) :: rest)) := by
  obtain ⟨hx, hb, hml, hown, hts, hK, hr, hlocks⟩ := C
  subst hN
  exact va_zald hx hb hK G.1 n 1 (by rw [wl_at b _ (kd_lt hk (by decide)), ent_14 b cI cZ cO σ hk]) rfl hin hdg kk
theorem m_zast {ρ : Type} {Rr : ρ} {f : Sg → Option ρ} (C : Cx p s m args meth c cc own nL ret D cI cZ cO) (G : Gd b D cI cZ cO σ H0 H locs) {n N : Nat} (hk : kd n = 14) (hN : ln n = N) {i x : Int32} (hin : vp_in i N) (hnar : vp_nar .boolean x = x) (hs : lt (st σ n i.toNatClampNeg x) f = some Rr) (hdg : decode cc pc = .ok (.bastore, 1))
    (kk : ∀ (σ1 : Sg) (H1 : Heap) (locs1 : List Loc), f σ1 = some Rr → Gd b D cI cZ cO σ1 H0 H1 locs1 → W p l e R s m args below meth c H1 locs1 cells slots Q (F0 m (pc + 1) ls rest)) : W p l e R s m args below meth c H locs cells slots Q (F0 m pc ls (.int x :: .int i :: .ref (b + n) :: rest)) := by
  obtain ⟨hx, hb, hml, hown, hts, hK, hr, hlocks⟩ := C
  subst hN
  refine va_zast hx hb hK G.1 (wl_D b 151 _) G.2 n 1 (by rw [wl_at b _ (kd_lt hk (by decide)), ent_14 b cI cZ cO σ hk]) rfl hin hdg (fun H1 locs1 hP1 _ hS1 => ?_)
  rw [hnar, wl_set, wl_congr (fun j _ => up_14 b cI cZ cO σ hk _ j)] at hP1
  exact kk _ H1 locs1 hs ⟨hP1, hS1⟩
theorem m_alen (C : Cx p s m args meth c cc own nL ret D cI cZ cO) (G : Gd b D cI cZ cO σ H0 H locs) {n : Nat} (hk : kd n = 13) (hdg : decode cc pc = .ok (.arraylength, 1))
    (kk : W p l e R s m args below meth c H locs cells slots Q (F0 m (pc + 1) ls (.int (nI (ln n)) :: rest))) : W p l e R s m args below meth c H locs cells slots Q (F0 m pc ls (.ref (b + n) :: rest)) := by
  obtain ⟨hx, hb, hml, hown, hts, hK, hr, hlocks⟩ := C
  exact va_alen (x := (ln n, .inl (σ n))) (cA := cI) hx hb hK G.1 n 0 (by rw [wl_at b _ (kd_lt hk (by decide)), ent_13 b cI cZ cO σ hk]) rfl rfl hdg kk
/-- a row of states: state i lies at n + off + 5 i -/
theorem m_aald15 (C : Cx p s m args meth c cc own nL ret D cI cZ cO) (G : Gd b D cI cZ cO σ H0 H locs) {n n' : Nat} (hk : kd n = 15) {i : Int32} (hin : vp_in i 16) (hn' : n' = n + 1 + 5 * i.toNatClampNeg) (hdg : decode cc pc = .ok (.aaload, 1))
    (kk : W p l e R s m args below meth c H locs cells slots Q (F0 m (pc + 1) ls (.ref (b + n') :: rest))) : W p l e R s m args below meth c H locs cells slots Q (F0 m pc ls (.int i :: .ref (b + n) :: rest)) := by
  obtain ⟨hx, hb, hml, hown, hts, hK, hr, hlocks⟩ := C
  subst hn'
  exact va_aldq (cA := cO) (n := 16) (f := fun i => some (b + (n + 1 + 5 * i))) hx hb hK G.1 n 2 (by rw [wl_at b _ (kd_lt hk (by decide)), ent_15 b cI cZ cO σ hk]) rfl hin hdg kk
theorem m_aald16 (C : Cx p s m args meth c cc own nL ret D cI cZ cO) (G : Gd b D cI cZ cO σ H0 H locs) {n n' : Nat} (hk : kd n = 16) {i : Int32} (hin : vp_in i 2) (hn' : n' = n + 2 + 5 * i.toNatClampNeg) (hdg : decode cc pc = .ok (.aaload, 1))
    (kk : W p l e R s m args below meth c H locs cells slots Q (F0 m (pc + 1) ls (.ref (b + n') :: rest))) : W p l e R s m args below meth c H locs cells slots Q (F0 m pc ls (.int i :: .ref (b + n) :: rest)) := by
  obtain ⟨hx, hb, hml, hown, hts, hK, hr, hlocks⟩ := C
  subst hn'
  exact va_aldq (cA := cO) (n := 2) (f := fun i => some (b + (n + 2 + 5 * i))) hx hb hK G.1 n 2 (by rw [wl_at b _ (kd_lt hk (by decide)), ent_16 b cI cZ cO σ hk]) rfl hin hdg kk
theorem m_copy {ρ : Type} {Rr : ρ} {f : Sg → Option ρ} (C : Cx p s m args meth c cc own nL ret D cI cZ cO) (G : Gd b D cI cZ cO σ H0 H locs) (hlz : ls.size = nL) {index n0 n1 N0 N1 : Nat} (hk0 : kd n0 = 13) (hk1 : kd n1 = 13) (hN0 : ln n0 = N0) (hN1 : ln n1 = N1) (hlink : Cond.methodLink own index arraycopyName ∈ TT) {sp dp n : Int32} (hg : ¬ sp < 0 ∧ ¬ dp < 0 ∧ ¬ n < 0 ∧ sp.toNatClampNeg + n.toNatClampNeg ≤ N0 ∧ dp.toNatClampNeg + n.toNatClampNeg ≤ N1) (hs : lt (sr σ n1 (va_cpy (σ n0) (σ n1) sp.toNatClampNeg dp.toNatClampNeg n.toNatClampNeg)) f = some Rr) (hframes : 1 ≤ R.frames) (hlocals : (rest.map fun v => v.category).sum + (nativeFrameWords "java/lang/System" "arraycopy" 5 + 11) ≤ R.locals) (hdg : decode cc pc = .ok (.invokestatic index, 3))
    (kk : ∀ (σ1 : Sg) (H1 : Heap) (locs1 : List Loc), f σ1 = some Rr → Gd b D cI cZ cO σ1 H0 H1 locs1 → W p l e R s m args below meth c H1 locs1 cells slots Q (F0 m (pc + 3) ls rest)) : W p l e R s m args below meth c H locs cells slots Q (F0 m pc ls (.int n :: .int dp :: .ref (b + n1) :: .int sp :: .ref (b + n0) :: rest)) := by
  obtain ⟨hx, hb, hml, hown, hts, hK, hr, hlocks⟩ := C
  obtain ⟨h1, h2, h3, h4, h5⟩ := hg
  subst hN0 hN1
  refine va_copyi hx hb (hml.trans hlz.symm) hown (hts _ hlink) (hts _ wd_acn) (hts _ wd_acs) (hts _ wd_aci) hK G.1 (wl_D b 151 _) G.2 n0 n1 0 0 (ty := .int) (by rw [wl_at b _ (kd_lt hk0 (by decide)), ent_13 b cI cZ cO σ hk0]) (by rw [wl_at b _ (kd_lt hk1 (by decide)), ent_13 b cI cZ cO σ hk1]) rfl rfl rfl h1 h2 h3 h4 h5 (fun _ _ => rfl) hframes hlocals hdg (fun H1 locs1 hP1 _ hS1 => ?_)
  rw [wl_set, wl_congr (fun j _ => up_13 b cI cZ cO σ hk1 _ j)] at hP1
  exact kk _ H1 locs1 hs ⟨hP1, hS1⟩
theorem m_max (C : Cx p s m args meth c cc own nL ret D cI cZ cO) (hlz : ls.size = nL) {index : Nat} (hlink : Cond.methodLink own index Lib.Math.max.name ∈ TT) {x y : Int32} (hframes : 1 ≤ R.frames) (hlocals : (rest.map fun v => v.category).sum + 13 ≤ R.locals) (hc : cells ≤ R.cells) (hsl : slots ≤ R.slots) (hdg : decode cc pc = .ok (.invokestatic index, 3))
    (kk : W p l e R s m args below meth c H locs cells slots Q (F0 m (pc + 3) ls (.int (if x < y then y else x) :: rest))) : W p l e R s m args below meth c H locs cells slots Q (F0 m pc ls (.int y :: .int x :: rest)) := by
  obtain ⟨hx, hb, hml, hown, hts, hK, hr, hlocks⟩ := C
  exact va_mmax hx hb (hml.trans hlz.symm) hown (hts _ hlink) (hts _ wd_maxs) (hts _ wd_mi) (hts _ wd_maxc) hframes hlocals hc hsl hdg kk
theorem m_min (C : Cx p s m args meth c cc own nL ret D cI cZ cO) (hlz : ls.size = nL) {index : Nat} (hlink : Cond.methodLink own index Lib.Math.min.name ∈ TT) {x y : Int32} (hframes : 1 ≤ R.frames) (hlocals : (rest.map fun v => v.category).sum + 13 ≤ R.locals) (hc : cells ≤ R.cells) (hsl : slots ≤ R.slots) (hdg : decode cc pc = .ok (.invokestatic index, 3))
    (kk : W p l e R s m args below meth c H locs cells slots Q (F0 m (pc + 3) ls (.int (if y < x then y else x) :: rest))) : W p l e R s m args below meth c H locs cells slots Q (F0 m pc ls (.int y :: .int x :: rest)) := by
  obtain ⟨hx, hb, hml, hown, hts, hK, hr, hlocks⟩ := C
  exact va_mmin hx hb (hml.trans hlz.symm) hown (hts _ hlink) (hts _ wd_mins) (hts _ wd_mi) (hts _ wd_minc) hframes hlocals hc hsl hdg kk
theorem m_ldc (C : Cx p s m args meth c cc own nL ret D cI cZ cO) {index : Nat} {v : Int32} (hlink : Cond.constant own index v ∈ TT) (hdg : decode cc pc = .ok (.ldc index, 2))
    (kk : W p l e R s m args below meth c H locs cells slots Q (F0 m (pc + 2) ls (.int v :: rest))) : W p l e R s m args below meth c H locs cells slots Q (F0 m pc ls rest) := lv_ldc C.1 C.2.1 C.2.2.2.1 (C.2.2.2.2.1 _ hlink) hdg kk
theorem m_ldcw (C : Cx p s m args meth c cc own nL ret D cI cZ cO) {index : Nat} {v : Int32} (hlink : Cond.constant own index v ∈ TT) (hdg : decode cc pc = .ok (.ldc_w index, 3))
    (kk : W p l e R s m args below meth c H locs cells slots Q (F0 m (pc + 3) ls (.int v :: rest))) : W p l e R s m args below meth c H locs cells slots Q (F0 m pc ls rest) := lv_ldcw C.1 C.2.1 C.2.2.2.1 (C.2.2.2.2.1 _ hlink) hdg kk
theorem m_ldc2 (C : Cx p s m args meth c cc own nL ret D cI cZ cO) {index : Nat} {v : Int64} (hlink : Cond.constantLong own index v ∈ TT) (hdg : decode cc pc = .ok (.ldc2_w index, 3))
    (kk : W p l e R s m args below meth c H locs cells slots Q (F0 m (pc + 3) ls (.long v :: rest))) : W p l e R s m args below meth c H locs cells slots Q (F0 m pc ls rest) := lv_ldc2 C.1 C.2.1 C.2.2.2.1 (C.2.2.2.2.1 _ hlink) hdg kk
/-- calls: the callee's contract, its words, the room -/
theorem goodV {own C0 : String} {idx : Nat} {y : MethodName} {cb : ByteArray} {k : Nat} {rt : Option FieldType} (h1 : Cond.methodLink own idx y ∈ TT) (h2 : Cond.instanceMethod y ∈ TT) (h3 : Cond.selects C0 y y ∈ TT) (h4 : Cond.initialized C0 ∈ TT) (h5 : Cond.code y cb k rt ∈ TT) : GoodIn TT (wsV own idx C0 y (Cond.code y cb k rt :: TT)) := by
  intro w hw
  unfold wsV at hw
  simp only [List.cons_append, List.nil_append, List.mem_cons] at hw
  rcases hw with h | h | h | h | h | h
  · exact h ▸ gw h1
  · exact h ▸ gw h2
  · exact h ▸ gw h3
  · exact h ▸ gw h4
  · exact h ▸ gw h5
  · exact gw h
theorem goodS {own : String} {idx : Nat} {y : MethodName} {cb : ByteArray} {k : Nat} {rt : Option FieldType} (h1 : Cond.methodLink own idx y ∈ TT) (h2 : Cond.static y ∈ TT) (h4 : Cond.initialized y.cls ∈ TT) (h5 : Cond.code y cb k rt ∈ TT) : GoodIn TT (va_wsS own idx y (Cond.code y cb k rt :: TT)) := by
  intro w hw
  unfold va_wsS at hw
  simp only [List.cons_append, List.nil_append, List.mem_cons] at hw
  rcases hw with h | h | h | h | h
  · exact h ▸ gw h1
  · exact h ▸ gw h2
  · exact h ▸ gw h4
  · exact h ▸ gw h5
  · exact gw h
theorem blind {av : List Value} : FrameBlind (va_Pc av (Wd b D cI cZ cO σ)) := fun a U g mk q => by
  obtain ⟨q0, qP, qK⟩ := q
  exact ⟨q0, qP, va_K.moved (u := U) (U := U.calling g mk a) (Vm.Alike.refl U.vm) qK⟩
theorem callVI {y : MethodName} {cb : ByteArray} {k ar index : Nat} {rt : Option FieldType} {rm : Room} {n ci : Nat} {C0 : String} {T : u_T} {N : Nat} {fs : List Value} {As : List Value} {r : Int32} {σ1 : Sg} (C : Cx p s m args meth c cc own nL ret D cI cZ cO) (G : Gd b D cI cZ cO σ H0 H locs) (hlz : ls.size = nL) (hM : MI l y cb k rt rm (.ref (b + n) :: As) b D cI cZ cO σ (r, σ1)) (hw : Cond.methodLink own index y ∈ TT ∧ Cond.instanceMethod y ∈ TT ∧ Cond.selects C0 y y ∈ TT ∧ Cond.initialized C0 ∈ TT ∧ Cond.code y cb k rt ∈ TT) (hy : y.cls = C0 ∧ y.cls ≠ "java/lang/invoke/MethodHandle" ∧ y.cls ≠ "java/lang/invoke/VarHandle" ∧ (parseMethodDescriptor y.desc).map (fun d => d.parameters.length) = some ar) (har : As.length = ar) (hrm : rm.cells = 0 ∧ rm.slots = 0) (hR : rm.frames + 1 ≤ R.frames ∧ 8 + (k + 11) + rm.locals ≤ R.locals) (hn : n < 151) (he : ent b cI cZ cO σ n = .inr (ci, fs)) (hc : vwCl[ci]? = some (C0, T, N)) (hroom : (rest.map fun v => v.category).sum ≤ 8) (hcs : cells ≤ R.cells ∧ slots ≤ R.slots) (hdg : decode cc pc = .ok (.invokevirtual index, 3)) {stk : List Value} (hst : stk = As.reverse ++ .ref (b + n) :: rest)
    (kk : ∀ (H1 : Heap) (locs1 : List Loc), Gd b D cI cZ cO σ1 H0 H1 locs1 → W p l e R s m args below meth c H1 locs1 cells slots Q (F0 m (pc + 3) ls (.int r :: rest))) : W p l e R s m args below meth c H locs cells slots Q (F0 m pc ls stk) := by
  obtain ⟨hx, hb, hml, hown, hts, hK, hr, hlocks⟩ := C
  obtain ⟨w1, w2, w3, w4, w5⟩ := hw
  refine va_calli (va_runV (As := As) (rest := rest) ⟨hx, hb, hml, hown, hts⟩ hM (cwV ar hts (goodV w1 w2 w3 w4 w5) rfl hrm.1 hrm.2 hy hR) ⟨blind, va_recv hK G.1 hc (q0 := n) (by rw [wl_at b _ hn, he]), fun U hU hW => ⟨rfl, by rw [hU]; exact G.1, va_K.moved hW.alike hK⟩⟩ rfl har hlz hst (lv_room hroom) hdg ⟨hcs.1, hcs.2⟩) G.2 (fun q _ h => h) (fun q h => h) (fun r1 u t H1 locs1 ht hvm hw1 hB hz1 hk1 hS1 => ?_)
  have e1 : r1 = r := congrArg Prod.fst hw1
  have e2 : u = σ1 := congrArg Prod.snd hw1
  subst e1 e2
  exact kk H1 locs1 ⟨by rw [← ht]; exact hB.1, hS1⟩
theorem callVV {y : MethodName} {cb : ByteArray} {k ar index : Nat} {rm : Room} {n ci : Nat} {C0 : String} {T : u_T} {N : Nat} {fs : List Value} {As : List Value} {σ1 : Sg} (C : Cx p s m args meth c cc own nL ret D cI cZ cO) (G : Gd b D cI cZ cO σ H0 H locs) (hlz : ls.size = nL) (hM : MV l y cb k rm (.ref (b + n) :: As) b D cI cZ cO σ σ1) (hw : Cond.methodLink own index y ∈ TT ∧ Cond.instanceMethod y ∈ TT ∧ Cond.selects C0 y y ∈ TT ∧ Cond.initialized C0 ∈ TT ∧ Cond.code y cb k none ∈ TT) (hy : y.cls = C0 ∧ y.cls ≠ "java/lang/invoke/MethodHandle" ∧ y.cls ≠ "java/lang/invoke/VarHandle" ∧ (parseMethodDescriptor y.desc).map (fun d => d.parameters.length) = some ar) (har : As.length = ar) (hrm : rm.cells = 0 ∧ rm.slots = 0) (hR : rm.frames + 1 ≤ R.frames ∧ 8 + (k + 11) + rm.locals ≤ R.locals) (hn : n < 151) (he : ent b cI cZ cO σ n = .inr (ci, fs)) (hc : vwCl[ci]? = some (C0, T, N)) (hroom : (rest.map fun v => v.category).sum ≤ 8) (hcs : cells ≤ R.cells ∧ slots ≤ R.slots) (hdg : decode cc pc = .ok (.invokevirtual index, 3)) {stk : List Value} (hst : stk = As.reverse ++ .ref (b + n) :: rest)
    (kk : ∀ (H1 : Heap) (locs1 : List Loc), Gd b D cI cZ cO σ1 H0 H1 locs1 → W p l e R s m args below meth c H1 locs1 cells slots Q (F0 m (pc + 3) ls rest)) : W p l e R s m args below meth c H locs cells slots Q (F0 m pc ls stk) := by
  obtain ⟨hx, hb, hml, hown, hts, hK, hr, hlocks⟩ := C
  obtain ⟨w1, w2, w3, w4, w5⟩ := hw
  refine va_callv (va_runV (As := As) (rest := rest) ⟨hx, hb, hml, hown, hts⟩ hM (cwV ar hts (goodV w1 w2 w3 w4 w5) rfl hrm.1 hrm.2 hy hR) ⟨blind, va_recv hK G.1 hc (q0 := n) (by rw [wl_at b _ hn, he]), fun U hU hW => ⟨rfl, by rw [hU]; exact G.1, va_K.moved hW.alike hK⟩⟩ rfl har hlz hst (lv_room hroom) hdg ⟨hcs.1, hcs.2⟩) G.2 (fun q _ h => h) (fun q h => h) (fun u t H1 locs1 ht hvm hw1 hB hz1 hk1 hS1 => ?_)
  have e2 : u = σ1 := hw1
  subst e2
  exact kk H1 locs1 ⟨by rw [← ht]; exact hB.1, hS1⟩
theorem callSI {y : MethodName} {cb : ByteArray} {k ar index : Nat} {rt : Option FieldType} {rm : Room} {As : List Value} {r : Int32} {σ1 : Sg} (C : Cx p s m args meth c cc own nL ret D cI cZ cO) (G : Gd b D cI cZ cO σ H0 H locs) (hlz : ls.size = nL) (hM : MI l y cb k rt rm As b D cI cZ cO σ (r, σ1)) (hw : Cond.methodLink own index y ∈ TT ∧ Cond.static y ∈ TT ∧ Cond.initialized y.cls ∈ TT ∧ Cond.code y cb k rt ∈ TT) (hy : y.cls ≠ "java/lang/invoke/MethodHandle" ∧ y.cls ≠ "java/lang/invoke/VarHandle" ∧ (parseMethodDescriptor y.desc).map (fun d => d.parameters.length) = some ar) (har : As.length = ar) (hrm : rm.cells = 0 ∧ rm.slots = 0) (hR : rm.frames + 1 ≤ R.frames ∧ 8 + (k + 11) + rm.locals ≤ R.locals) (hroom : (rest.map fun v => v.category).sum ≤ 8) (hcs : cells ≤ R.cells ∧ slots ≤ R.slots) (hdg : decode cc pc = .ok (.invokestatic index, 3)) {stk : List Value} (hst : stk = As.reverse ++ rest)
    (kk : ∀ (H1 : Heap) (locs1 : List Loc), Gd b D cI cZ cO σ1 H0 H1 locs1 → W p l e R s m args below meth c H1 locs1 cells slots Q (F0 m (pc + 3) ls (.int r :: rest))) : W p l e R s m args below meth c H locs cells slots Q (F0 m pc ls stk) := by
  obtain ⟨hx, hb, hml, hown, hts, hK, hr, hlocks⟩ := C
  obtain ⟨w1, w2, w4, w5⟩ := hw
  refine va_calli (va_runS (As := As) (rest := rest) ⟨hx, hb, hml, hown, hts⟩ hM (va_cwS ar hts (goodS w1 w2 w4 w5) rfl hrm.1 hrm.2 hy hR) ⟨blind, fun U hU hW => ⟨rfl, by rw [hU]; exact G.1, va_K.moved hW.alike hK⟩⟩ rfl har hlz hst (lv_room hroom) hdg ⟨hcs.1, hcs.2⟩) G.2 (fun q _ h => h) (fun q h => h) (fun r1 u t H1 locs1 ht hvm hw1 hB hz1 hk1 hS1 => ?_)
  have e1 : r1 = r := congrArg Prod.fst hw1
  have e2 : u = σ1 := congrArg Prod.snd hw1
  subst e1 e2
  exact kk H1 locs1 ⟨by rw [← ht]; exact hB.1, hS1⟩
theorem callSV {y : MethodName} {cb : ByteArray} {k ar index : Nat} {rm : Room} {As : List Value} {σ1 : Sg} (C : Cx p s m args meth c cc own nL ret D cI cZ cO) (G : Gd b D cI cZ cO σ H0 H locs) (hlz : ls.size = nL) (hM : MV l y cb k rm As b D cI cZ cO σ σ1) (hw : Cond.methodLink own index y ∈ TT ∧ Cond.static y ∈ TT ∧ Cond.initialized y.cls ∈ TT ∧ Cond.code y cb k none ∈ TT) (hy : y.cls ≠ "java/lang/invoke/MethodHandle" ∧ y.cls ≠ "java/lang/invoke/VarHandle" ∧ (parseMethodDescriptor y.desc).map (fun d => d.parameters.length) = some ar) (har : As.length = ar) (hrm : rm.cells = 0 ∧ rm.slots = 0) (hR : rm.frames + 1 ≤ R.frames ∧ 8 + (k + 11) + rm.locals ≤ R.locals) (hroom : (rest.map fun v => v.category).sum ≤ 8) (hcs : cells ≤ R.cells ∧ slots ≤ R.slots) (hdg : decode cc pc = .ok (.invokestatic index, 3)) {stk : List Value} (hst : stk = As.reverse ++ rest)
    (kk : ∀ (H1 : Heap) (locs1 : List Loc), Gd b D cI cZ cO σ1 H0 H1 locs1 → W p l e R s m args below meth c H1 locs1 cells slots Q (F0 m (pc + 3) ls rest)) : W p l e R s m args below meth c H locs cells slots Q (F0 m pc ls stk) := by
  obtain ⟨hx, hb, hml, hown, hts, hK, hr, hlocks⟩ := C
  obtain ⟨w1, w2, w4, w5⟩ := hw
  refine va_callv (va_runS (As := As) (rest := rest) ⟨hx, hb, hml, hown, hts⟩ hM (va_cwS ar hts (goodS w1 w2 w4 w5) rfl hrm.1 hrm.2 hy hR) ⟨blind, fun U hU hW => ⟨rfl, by rw [hU]; exact G.1, va_K.moved hW.alike hK⟩⟩ rfl har hlz hst (lv_room hroom) hdg ⟨hcs.1, hcs.2⟩) G.2 (fun q _ h => h) (fun q h => h) (fun u t H1 locs1 ht hvm hw1 hB hz1 hk1 hS1 => ?_)
  have e2 : u = σ1 := hw1
  subst e2
  exact kk H1 locs1 ⟨by rw [← ht]; exact hB.1, hS1⟩
theorem retI {v : Int32} {Rr : Int32 × Sg} (C : Cx p s m args meth c cc own nL (some .int) D cI cZ cO) (G : Gd b D cI cZ cO σ s.heap H locs) (hs : some (v, σ) = some Rr) (hdg : decode cc pc = .ok (.ireturn, 1)) : W p l e R s m args below meth c H locs 0 0 (MQ below (QI b D cI cZ cO Rr) args s 0 0 (fun q => b ≤ q)) (F0 m pc ls [.int v]) := by
  obtain ⟨hx, hb, hml, hown, hts, hK, hr, hlocks⟩ := C
  exact W.iret hx hb hr (fun t ht hW => ⟨⟨v, σ, rfl, Option.some.inj hs, by rw [ht]; exact G.1, va_K.moved hW.alike hK⟩, G.2.F ht⟩) G.2.2.2 hdg hlocks
theorem retZ {v : Int32} {Rr : Int32 × Sg} (C : Cx p s m args meth c cc own nL (some .boolean) D cI cZ cO) (G : Gd b D cI cZ cO σ s.heap H locs) (hz : v = 0 ∨ v = 1) (hs : some (v, σ) = some Rr) (hdg : decode cc pc = .ok (.ireturn, 1)) : W p l e R s m args below meth c H locs 0 0 (MQ below (QI b D cI cZ cO Rr) args s 0 0 (fun q => b ≤ q)) (F0 m pc ls [.int v]) := by
  obtain ⟨hx, hb, hml, hown, hts, hK, hr, hlocks⟩ := C
  exact W.zret hx hb hr (by rcases hz with h | h <;> rw [h] <;> rfl) (fun t ht hW => ⟨⟨v, σ, rfl, Option.some.inj hs, by rw [ht]; exact G.1, va_K.moved hW.alike hK⟩, G.2.F ht⟩) G.2.2.2 hdg hlocks
theorem retV {Rr : Sg} (C : Cx p s m args meth c cc own nL none D cI cZ cO) (G : Gd b D cI cZ cO σ s.heap H locs) (hs : some σ = some Rr) (hdg : decode cc pc = .ok (.return_, 1)) : W p l e R s m args below meth c H locs 0 0 (MQ below (QV b D cI cZ cO Rr) args s 0 0 (fun q => b ≤ q)) (F0 m pc ls []) := by
  obtain ⟨hx, hb, hml, hown, hts, hK, hr, hlocks⟩ := C
  exact W.vret hx hb hr (fun t ht hW => ⟨⟨σ, rfl, Option.some.inj hs, by rw [ht]; exact G.1, va_K.moved hW.alike hK⟩, G.2.F ht⟩) G.2.2.2 hdg hlocks
end MRows
theorem metI {l : Launch} {y : MethodName} {cc : ByteArray} {nL : Nat} {ret : Option FieldType} {rm : Room} {av : List Value} {b : Nat} {D : va_G} {cI cZ cO : ClassId} {σ : Sg} {Rr : Int32 × Sg} (hy : plainName y.cls = true) (hle : (lg_sl av).length ≤ nL)
    (body : ∀ (p : Program) (e : Env) (s : State) (m : MethodId) (below : List Frame) (meth : Method) (c : Code) (ls : Array Slot), Cx p s m av.toArray meth c cc y.cls nL ret D cI cZ cO → Gd b D cI cZ cO σ s.heap s.heap [] → lv_has ls nL (lv_args 0 av) → W p l e rm s m av.toArray below meth c s.heap [] 0 0 (MQ below (QI b D cI cZ cO Rr) av.toArray s 0 0 (fun q => b ≤ q)) (F0 m 0 ls [])) : MI l y cc nL ret rm av b D cI cZ cO σ Rr := by
  refine Met.ofW (cc := cc) (maxL := nL) (ret := ret) hy rfl ?_
  intro p e s m args below meth c s₁ B hml hv
  obtain ⟨rfl, hP, hK⟩ := hv
  have hts := atoms_spec (ws := Cond.code y cc nL ret :: TT) B.pre
  have hl := lv_entry av (n := nL) hle
  rw [lg_entry_eq]
  exact body p e s m below meth c _ ⟨B.exec, B.bytes, hml, findClass_of_methodNamed B.named, fun w h => hts w (List.mem_cons_of_mem _ h), hK, B.returns, B.notSynchronized⟩ ⟨hP, va_S.rf⟩ hl
theorem metV {l : Launch} {y : MethodName} {cc : ByteArray} {nL : Nat} {rm : Room} {av : List Value} {b : Nat} {D : va_G} {cI cZ cO : ClassId} {σ : Sg} {Rr : Sg} (hy : plainName y.cls = true) (hle : (lg_sl av).length ≤ nL)
    (body : ∀ (p : Program) (e : Env) (s : State) (m : MethodId) (below : List Frame) (meth : Method) (c : Code) (ls : Array Slot), Cx p s m av.toArray meth c cc y.cls nL none D cI cZ cO → Gd b D cI cZ cO σ s.heap s.heap [] → lv_has ls nL (lv_args 0 av) → W p l e rm s m av.toArray below meth c s.heap [] 0 0 (MQ below (QV b D cI cZ cO Rr) av.toArray s 0 0 (fun q => b ≤ q)) (F0 m 0 ls [])) : MV l y cc nL rm av b D cI cZ cO σ Rr := by
  refine Met.ofW (cc := cc) (maxL := nL) (ret := none) hy rfl ?_
  intro p e s m args below meth c s₁ B hml hv
  obtain ⟨rfl, hP, hK⟩ := hv
  have hts := atoms_spec (ws := Cond.code y cc nL none :: TT) B.pre
  have hl := lv_entry av (n := nL) hle
  rw [lg_entry_eq]
  exact body p e s m below meth c _ ⟨B.exec, B.bytes, hml, findClass_of_methodNamed B.named, fun w h => hts w (List.mem_cons_of_mem _ h), hK, B.returns, B.notSynchronized⟩ ⟨hP, va_S.rf⟩ hl
