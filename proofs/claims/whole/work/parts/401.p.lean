/-! MAKING THE CELLS: the world grows from k cells to 151; what is made is told by s0 -/
def s0 : Sg := fun n k => if n = 1 ∧ k = 3 then -1 else if n = 3 ∧ k = 0 then nI 4 else if n = 0 ∧ k = 8 then nI 125 else if n = 132 ∧ k = 11 then -1 else 0
/-- the object n is being made: the cells before it are E's, those behind it are done -/
def Yw (b : Nat) (cI cZ cO : ClassId) (n : Nat) (E : Nat → va_E) (ci : Nat) (fs : List Value) : Nat → va_E := fun j => if j < n then E j else if j = n then .inr (ci, fs) else ent b cI cZ cO s0 j
def Exw (b : Nat) (cI cZ cO : ClassId) (n : Nat) (E : Nat → va_E) : Nat → va_E := fun j => if j < n then E j else ent b cI cZ cO s0 j
def nstQ : List (String × Nat × MethodName × String) := [(RX11, 9, yX8_init, RX11), (RX11, 18, yX2_init, RX11), (RX2, 11, yX4_init, RX11), (RX2, 20, yX10_init, RX11), (RX2, 27, yX0_init, RX11), (RX7, 17, yX10_init, RX11), (RX5, 25, yX10_init, RX11), (RX11, 39, yX3_init, RX11), (RX11, 46, yX9_init, RX11), (RX11, 53, yX1_init, RX11), (RX11, 60, yX6_init, RX11), (RX11, 67, yX4_init, RX11)]
/-- the links between nest mates, the rows of states -/
def Nx (U : State) : Prop := (∀ q ∈ nstQ, va_Nw (.methodLinkNest q.1 q.2.1 q.2.2.1 q.2.2.2) U) ∧ va_AO "AnsweredFates$State" U
theorem Nx.warm {s U : State} (hW : s.WarmedH U.vm) (h : Nx s) : Nx U := ⟨fun q hq => va_Nw.warmM hW (h.1 q hq), va_AO.moved hW.alike h.2⟩
def Wq (b k : Nat) (D : va_G) (cI cZ cO : ClassId) (E : Nat → va_E) (U : State) : Prop := U.heap.size = b + k ∧ va_P D vwCl (wl b k E) U.heap ∧ va_K D vwCl (tys3 cI cZ cO) U ∧ Nx U
def Bd (b k : Nat) (D : va_G) (E : Nat → va_E) (H0 H : Heap) (locs : List Loc) : Prop := H.size = b + k ∧ va_P D vwCl (wl b k E) H ∧ va_S (fun q => b ≤ q) H0 H locs
def QK (b k : Nat) (D : va_G) (E : Nat → va_E) : Array Value → State → Outcome → State → Prop := va_Qv (fun (_ : Unit) => True) (fun _ U => U.heap.size = b + k ∧ va_P D vwCl (wl b k E) U.heap) (fun q => b ≤ q)
/-- a constructor's contract: the last cell, n, is a new object; it and what it needs are made -/
def MK (l : Launch) (y : MethodName) (cc : ByteArray) (nL : Nat) (rm : Room) (av : List Value) (b : Nat) (D : va_G) (cI cZ cO : ClassId) (n sz ci : Nat) (dfl : List Value) (mc ms : Nat) : Prop := ∀ E : Nat → va_E, E n = .inr (ci, dfl) → Met l y (Cond.code y cc nL none :: TT) rm (va_Pc av (Wq b (n + 1) D cI cZ cO E)) (QK b (n + sz) D (Exw b cI cZ cO n E)) mc ms (fun q => b ≤ q)
theorem Bd.congr {b k : Nat} {D : va_G} {E F : Nat → va_E} {H0 H : Heap} {locs : List Loc} (G : Bd b k D E H0 H locs) (h : ∀ j, j < k → E j = F j) : Bd b k D F H0 H locs := ⟨G.1, by rw [← wl_congr h]; exact G.2.1, G.2.2⟩
theorem Bd.push {b k : Nat} {D : va_G} {E : Nat → va_E} {e : va_E} {H0 H H1 : Heap} {locs : List Loc} (G : Bd b k D E H0 H locs) (z : H1.size = b + k + 1) (o : ∀ q, q < b + k → H1[q]? = H[q]?) (h : va_at D vwCl (b + k, e) H1) : Bd b (k + 1) D (va_up E k e) H0 H1 locs := by
  have hk : ∀ (j : Nat) (x : Nat × va_E), (wl b k E)[j]? = some x → H1[x.1]? = H[x.1]? := fun j x hx => o x.1 (by rw [← G.1]; exact (G.2.1 j x hx).lt)
  refine ⟨by rw [z]; omega, ?_, ⟨Nat.le_trans G.2.2.1 (by rw [z, G.1]; omega), fun x h1 h2 => (o x (by rw [← G.1]; exact Nat.lt_of_lt_of_le h1 G.2.2.1)).trans (G.2.2.2.1 x h1 h2), G.2.2.2.2⟩⟩
  rw [← wl_push]
  refine (G.2.1.kept hk).app (fun j x hx => ?_)
  have hz : j < 1 := (List.getElem?_eq_some_iff.mp hx).1
  rw [show j = 0 by omega] at hx
  cases hx
  exact h
theorem va_up_same {E : Nat → va_E} {k : Nat} {e : va_E} (h : E k = e) : va_up E k e = E := by
  funext j
  by_cases q : j = k
  · rw [q, va_up_self, h]
  · rw [va_up_ne _ _ q]
theorem arrV_eq (c : ClassId) {N : Nat} {f g : Nat → Value} (h : ∀ j, j < N → f j = g j) : arrV c N f = arrV c N g := by
  unfold arrV
  congr 2
  funext j
  exact h j.val j.isLt
/-- a row's entry may be told by another function that is the same on its places -/
theorem Bd.row {b k q N : Nat} {D : va_G} {E : Nat → va_E} {H0 H : Heap} {locs : List Loc} {cA : ClassId} {f g : Nat → Option Nat} (G : Bd b k D E H0 H locs) (hE : E q = .inl (cA, N, .inr (.inr (.inr (.inr f))))) (h : ∀ j, j < N → f j = g j) : Bd b k D (va_up E q (.inl (cA, N, .inr (.inr (.inr (.inr g)))))) H0 H locs := by
  refine ⟨G.1, fun j x hx => ?_, G.2.2⟩
  have hj : j < k := by have := (List.getElem?_eq_some_iff.mp hx).1; rwa [wl_len] at this
  rw [wl_at b _ hj] at hx
  cases hx
  have old := G.2.1 j _ (wl_at b E hj)
  by_cases c : j = q
  · subst c
    rw [va_up_self]
    rw [hE] at old
    have old : H[b + j]? = some (vp_cell cA (N, .inr (.inr (.inr (.inr f))))) := old
    show H[b + j]? = some (vp_cell cA (N, .inr (.inr (.inr (.inr g)))))
    rw [old, vp_cell_q, vp_cell_q, arrV_eq cA (fun j hj => by rw [h j hj])]
  · rw [va_up_ne _ _ c]; exact old
section NRows
variable {p : Program} {l : Launch} {e : Env} {R : Room} {s : State} {m : MethodId} {args : Array Value} {below : List Frame} {meth : Method} {c : Code} {H : Heap} {locs : List Loc} {cells slots : Nat} {Q : State → Prop}
variable {cc : ByteArray} {own : String} {nL : Nat} {ret : Option FieldType} {D : va_G} {cI cZ cO : ClassId} {b k : Nat} {E : Nat → va_E} {H0 : Heap} {pc : Nat} {ls : Array Slot} {rest : List Value}
theorem n_obj (C : Cx p s m args meth c cc own nL ret D cI cZ cO) (hlz : ls.size = nL) {idx a : Nat} (hlink : Cond.methodLink own idx objectInit ∈ TT) (w1 : Cond.instanceMethod objectInit ∈ TT) (w2 : Cond.code objectInit ⟨#[0xb1]⟩ 1 none ∈ TT) (hf : 1 ≤ R.frames) (hlo : (rest.map fun v => v.category).sum + 12 ≤ R.locals) (hdg : decode cc pc = .ok (.invokespecial idx, 3))
    (kk : W p l e R s m args below meth c H locs cells slots Q (F0 m (pc + 3) ls rest)) : W p l e R s m args below meth c H locs cells slots Q (F0 m pc ls (.ref a :: rest)) := by
  obtain ⟨hx, hb, hml, hown, hts, hK, hr, hlocks⟩ := C
  exact W.objInit hx hb hown (hts _ hlink) (hts _ w1) (hts _ w2) rfl (by rw [hml]; exact hlz) rfl hdg hf (by show 2 * 0 + _ + 12 ≤ R.locals; omega) kk
theorem n_new (C : Cx p s m args meth c cc own nL ret D cI cZ cO) (G : Bd b k D E H0 H locs) {ci N index : Nat} {T0 : u_T} {C0 : String} (ty : Nat → FieldType) (hty : ∀ k, k < N → parseFieldDescriptor (T0 k).2.2.1 = some (ty k)) (hin : ∀ w ∈ u_ws C0 T0 N, w ∈ TT) (hc : vwCl[ci]? = some (C0, T0, N)) (hcl : Cond.classLink own index C0 ∈ TT) (hinst : Cond.instantiable C0 N ∈ TT) (hini : Cond.initialized C0 ∈ TT) {dfl : List Value} (hfs : ∀ j, j < N → defaultValue (ty j) = vp_V dfl j) (hcells : cells + 1 ≤ R.cells) (hslots : slots + N ≤ R.slots) (hdg : decode cc pc = .ok (.new index, 3))
    (kk : ∀ H1 : Heap, Bd b (k + 1) D (va_up E k (.inr (ci, dfl))) H0 H1 locs → W p l e R s m args below meth c H1 locs (cells + 1) (slots + N) Q (F0 m (pc + 3) ls (.ref (b + k) :: rest))) : W p l e R s m args below meth c H locs cells slots Q (F0 m pc ls rest) := by
  obtain ⟨hx, hb, hml, hown, hts, hK, hr, hlocks⟩ := C
  have hKn := hK.1 ci _ hc
  refine W.newcK hx hb hown (hts _ hcl) (hts _ hinst) (hts _ hini) rfl hdg hcells hslots hKn.2.1 G.1 fun H1 kC hkC e1 z1 o1 => ?_
  exact kk H1 (G.push z1 o1 ⟨_, hc, (u_born ty hts hin hKn hkC e1 hty).to hfs⟩)
theorem n_newi (C : Cx p s m args meth c cc own nL ret D cI cZ cO) (G : Bd b k D E H0 H locs) (w1 : Cond.arrayClass .int ∈ TT) {x : Int32} {N : Nat} (hN : x.toNatClampNeg = N) (hx0 : ¬ x < 0) (hN2 : N ≤ 2000) (hE : E k = .inl (cI, N, .inl (fun _ => 0))) (hcells : cells + 1 ≤ R.cells) (hslots : slots + N ≤ R.slots) (hdg : decode cc pc = .ok (.newarray .int, 2))
    (kk : ∀ H1 : Heap, Bd b (k + 1) D E H0 H1 locs → W p l e R s m args below meth c H1 locs (cells + 1) (slots + N) Q (F0 m (pc + 2) ls (.ref (b + k) :: rest))) : W p l e R s m args below meth c H locs cells slots Q (F0 m pc ls (.int x :: rest)) := by
  obtain ⟨hx, hb, hml, hown, hts, hK, hr, hlocks⟩ := C
  refine va_newaK (atype := .int) hx hb (hts _ w1) rfl hdg rfl hx0 hN (by show N * 4 ≤ 536870912; omega) hcells hslots G.1 fun H1 cA e1 z1 o1 hAr hNm => ?_
  have hcI : cA = cI := by
    have h : s.vm.findClass ("[" ++ FieldType.int.toString) = some cI := (hK.2 0 (cI, .int) rfl).2
    exact Option.some.inj (hNm.symm.trans h)
  subst hcI
  refine kk H1 ?_
  have := G.push (e := .inl (cA, N, .inl (fun _ => 0))) z1 o1 e1
  rwa [va_up_same hE] at this
theorem n_newz (C : Cx p s m args meth c cc own nL ret D cI cZ cO) (G : Bd b k D E H0 H locs) (w1 : Cond.arrayClass .boolean ∈ TT) {x : Int32} {N : Nat} (hN : x.toNatClampNeg = N) (hx0 : ¬ x < 0) (hN2 : N ≤ 2000) (hE : E k = .inl (cZ, N, .inl (fun _ => 0))) (hcells : cells + 1 ≤ R.cells) (hslots : slots + N ≤ R.slots) (hdg : decode cc pc = .ok (.newarray .boolean, 2))
    (kk : ∀ H1 : Heap, Bd b (k + 1) D E H0 H1 locs → W p l e R s m args below meth c H1 locs (cells + 1) (slots + N) Q (F0 m (pc + 2) ls (.ref (b + k) :: rest))) : W p l e R s m args below meth c H locs cells slots Q (F0 m pc ls (.int x :: rest)) := by
  obtain ⟨hx, hb, hml, hown, hts, hK, hr, hlocks⟩ := C
  refine va_newaK (atype := .boolean) hx hb (hts _ w1) rfl hdg rfl hx0 hN (by show N * 1 ≤ 536870912; omega) hcells hslots G.1 fun H1 cA e1 z1 o1 hAr hNm => ?_
  have hcI : cA = cZ := by
    have h : s.vm.findClass ("[" ++ FieldType.boolean.toString) = some cZ := (hK.2 1 (cZ, .boolean) rfl).2
    exact Option.some.inj (hNm.symm.trans h)
  subst hcI
  refine kk H1 ?_
  have := G.push (e := .inl (cA, N, .inl (fun _ => 0))) z1 o1 e1
  rwa [va_up_same hE] at this
theorem n_newq (C : Cx p s m args meth c cc own nL ret D cI cZ cO) (hX : Nx s) (G : Bd b k D E H0 H locs) {index : Nat} (hcl : Cond.classLink own index "AnsweredFates$State" ∈ TT) {x : Int32} {N : Nat} (hN : x.toNatClampNeg = N) (hx0 : ¬ x < 0) (hN2 : N ≤ 2000) (hcells : cells + 1 ≤ R.cells) (hslots : slots + N ≤ R.slots) (hdg : decode cc pc = .ok (.anewarray index, 3))
    (kk : ∀ H1 : Heap, Bd b (k + 1) D (va_up E k (.inl (cO, N, .inr (.inr (.inr (.inr (fun _ => none))))))) H0 H1 locs → W p l e R s m args below meth c H1 locs (cells + 1) (slots + N) Q (F0 m (pc + 3) ls (.ref (b + k) :: rest))) : W p l e R s m args below meth c H locs cells slots Q (F0 m pc ls (.int x :: rest)) := by
  obtain ⟨hx, hb, hml, hown, hts, hK, hr, hlocks⟩ := C
  subst hN
  refine W.anew hx hb hown (hts _ hcl) (va_AO.use hX.2) rfl hdg rfl hx0 (by omega) hcells hslots fun cA kA comp f1 f2 f3 f4 => ?_
  have hcI : cA = cO := by
    obtain ⟨_, _, _, _, _, h⟩ := (hK.2 2 (cO, .object "AnsweredFates$State") rfl).2
    exact Option.some.inj (f1.symm.trans h)
  subst hcI
  generalize hH1 : H.push ({ cls := cA, slots := Array.replicate x.toNatClampNeg .null, vm := .none } : Cell) = H1
  have z1 : H1.size = H.size + 1 := by rw [← hH1, Array.size_push]
  have e1 : H1[H.size]? = some (arrV cA x.toNatClampNeg (fun _ => .null)) := by rw [← hH1, Array.getElem?_push_size, ← arrV_new]
  have o1 : ∀ q : Nat, q < H.size → H1[q]? = H[q]? := fun q hq => by rw [← hH1, Array.getElem?_push, if_neg (Nat.ne_of_lt hq)]
  rw [G.1] at z1 e1 o1 ⊢
  refine kk H1 (G.push z1 o1 ?_)
  show H1[b + k]? = some (vp_cell _ _)
  rw [vp_cell_q]
  exact e1
theorem Yw_at {n ci : Nat} {E0 : Nat → va_E} {fs : List Value} (hnk : n < k) : (wl b k (Yw b cI cZ cO n E0 ci fs))[n]? = some (b + n, .inr (ci, fs)) := by
  rw [wl_at b _ hnk]
  unfold Yw
  rw [if_neg (by omega), if_pos rfl]
theorem Yw_up {n ci : Nat} {E0 : Nat → va_E} {fs fs' : List Value} : va_up (Yw b cI cZ cO n E0 ci fs) n (.inr (ci, fs')) = Yw b cI cZ cO n E0 ci fs' := by
  funext j
  by_cases q : j = n
  · rw [q, va_up_self]; unfold Yw; rw [if_neg (by omega), if_pos rfl]
  · rw [va_up_ne _ _ q]; unfold Yw; rw [if_neg q, if_neg q]
theorem Bd.set {n i ci N : Nat} {T0 : u_T} {C0 : String} {fs fs' : List Value} {H1 : Heap} {v : Value} {cell : Cell} (G : Bd b k D E H0 H locs) (hnk : n < k) (hE : E n = .inr (ci, fs)) (hc : vwCl[ci]? = some (C0, T0, N)) (hap : ∀ a b, a < N → b < N → a ≠ b → D.2 ci a ≠ D.2 ci b) (hi : i < N) (hl : i < fs.length) (hset : fs.set i v = fs') (q2 : cell.cls = D.1 ci) (q3 : cell.vm = VmData.none) (q4 : ∀ j, j < N → cell.slots[D.2 ci j]? = some (vp_V fs j)) (e1 : H1[b + n]? = some (cell.setSlot (D.2 ci i) v)) (e2 : H1.size = H.size) (e3 : ∀ q : Nat, q ≠ b + n → H1[q]? = H[q]?) : Bd b k D (va_up E n (.inr (ci, fs'))) H0 H1 (locs ++ [⟨b + n, D.2 ci i⟩]) := by
  subst hset
  refine ⟨by rw [e2]; exact G.1, ?_, G.2.2.put e2 e3 (Nat.le_add_right b n)⟩
  have h := G.2.1.set (wl_D b k _) (show (wl b k E)[n]? = some (b + n, .inr (ci, fs)) by rw [wl_at b _ hnk, hE]) (e := .inr (ci, fs.set i v)) ⟨_, hc, t_OB.to (V := updV (vp_V fs) i v) ⟨_, e1, q2, q3, t_set q4 hap hi v⟩ (fun j _ => vp_updV_set hl v j)⟩ e3
  rw [wl_set] at h
  exact h
theorem n_putFE {n : Nat} {ci N index : Nat} {T0 : u_T} {fs fs' : List Value} (C : Cx p s m args meth c cc own nL ret D cI cZ cO) (hn : meth.name = "<init>") (G : Bd b k D E H0 H locs) (hnk : n < k) (hE : E n = .inr (ci, fs)) (hc : vwCl[ci]? = some (own, T0, N)) (hin : ∀ w ∈ u_ws own T0 N, w ∈ TT) (ty0 : Nat → FieldType) (hty : ∀ k, k < N → parseFieldDescriptor (T0 k).2.2.1 = some (ty0 k)) (hnm : ∀ a, a < N → ∀ b, b < N → a ≠ b → (T0 a).2.1 ≠ (T0 b).2.1) (i : Nat) (hi : i < N) {ref : String} (hlink : Cond.fieldLink own index ref (T0 i).2.1 (T0 i).2.2.1 ∈ TT) (href : (T0 i).1 = ref) (hown2 : ref = own) (hfin : (T0 i).2.2.2 = true) {v : Value} {ty : FieldType} (hd : parseFieldDescriptor (T0 i).2.2.1 = some ty) (hnar : narrow ty v = v) (hfit : fits ty v = true) (hl : i < fs.length) (hset : fs.set i v = fs') (hdg : decode cc pc = .ok (.putfield index, 3))
    (kk : ∀ (H1 : Heap) (locs1 : List Loc), Bd b k D (va_up E n (.inr (ci, fs'))) H0 H1 locs1 → W p l e R s m args below meth c H1 locs1 cells slots Q (F0 m (pc + 3) ls rest)) : W p l e R s m args below meth c H locs cells slots Q (F0 m pc ls (v :: .ref (b + n) :: rest)) := by
  obtain ⟨hx, hb, hml, hown, hts, hK, hr, hlocks⟩ := C
  have hap := va_apart (own := own) hts hin ty0 hty hnm hK hc
  obtain ⟨r, h1, cell, q1, q2, q3, q4⟩ := G.2.1 n _ (show (wl b k E)[n]? = some (b + n, .inr (ci, fs)) by rw [wl_at b _ hnk, hE])
  have hr' : r = (own, T0, N) := Option.some.inj (h1.symm.trans hc)
  subst hr'
  obtain ⟨hS, hfc, kC, hkC, hkind⟩ := hK.1 ci _ hc
  obtain ⟨cf, kf, fi, f, hi2, hsl⟩ := hS i hi
  have hlay := hts _ (hin _ (u_in_lay hi))
  unfold u_lay at hlay
  rw [if_pos hfin] at hlay
  have hst := (u_facts hfc hkC (u_lays hts hin hi) hi2).1
  have hcf : m.cls = cf := by
    obtain ⟨_, _, c', _, _, _, -, -, hf', -, -, -, ho2, -⟩ := Cond.laysFinal_spec hlay
    have e1 : c' = cf := by have := hi2.symm.trans hf'; simp at this; exact this.1.symm
    rw [href, hown2] at ho2
    rw [← e1]; exact Option.some.inj (hown.symm.trans ho2)
  have h6 := u_fits hfc hkC hkind (Or.inr hlay) hi2 hd hnar hfit
  have hi3 : s.fieldFound? ref (T0 i).2.1 (T0 i).2.2.1 = some (cf, kf, fi, f) := by rw [← href]; exact hi2
  refine W.putFinK hx hb hown (hts _ hlink) hi3 hst hcf hn (by rw [q2]; exact h6) q1 q3 (by rw [hsl]; exact k2_hasslot (q4 i hi)) rfl rfl hdg fun H' e1 e2 e3 => ?_
  rw [hsl] at e1 ⊢
  exact kk H' _ (G.set hnk hE hc hap hi hl hset q2 q3 q4 e1 e2 e3)
theorem n_putE {n : Nat} {ci N index : Nat} {T0 : u_T} {fs fs' : List Value} (C : Cx p s m args meth c cc own nL ret D cI cZ cO) (G : Bd b k D E H0 H locs) (hnk : n < k) (hE : E n = .inr (ci, fs)) (hc : vwCl[ci]? = some (own, T0, N)) (hin : ∀ w ∈ u_ws own T0 N, w ∈ TT) (ty0 : Nat → FieldType) (hty : ∀ k, k < N → parseFieldDescriptor (T0 k).2.2.1 = some (ty0 k)) (hnm : ∀ a, a < N → ∀ b, b < N → a ≠ b → (T0 a).2.1 ≠ (T0 b).2.1) (i : Nat) (hi : i < N) {ref : String} (hlink : Cond.fieldLink own index ref (T0 i).2.1 (T0 i).2.2.1 ∈ TT) (href : (T0 i).1 = ref) (hfin : (T0 i).2.2.2 = false) {v : Value} {ty : FieldType} (hd : parseFieldDescriptor (T0 i).2.2.1 = some ty) (hnar : narrow ty v = v) (hfit : fits ty v = true) (hl : i < fs.length) (hset : fs.set i v = fs') (hdg : decode cc pc = .ok (.putfield index, 3))
    (kk : ∀ (H1 : Heap) (locs1 : List Loc), Bd b k D (va_up E n (.inr (ci, fs'))) H0 H1 locs1 → W p l e R s m args below meth c H1 locs1 cells slots Q (F0 m (pc + 3) ls rest)) : W p l e R s m args below meth c H locs cells slots Q (F0 m pc ls (v :: .ref (b + n) :: rest)) := by
  obtain ⟨hx, hb, hml, hown, hts, hK, hr, hlocks⟩ := C
  have hap := va_apart (own := own) hts hin ty0 hty hnm hK hc
  obtain ⟨r, h1, cell, q1, q2, q3, q4⟩ := G.2.1 n _ (show (wl b k E)[n]? = some (b + n, .inr (ci, fs)) by rw [wl_at b _ hnk, hE])
  have hr' : r = (own, T0, N) := Option.some.inj (h1.symm.trans hc)
  subst hr'
  obtain ⟨hS, hfc, kC, hkC, hkind⟩ := hK.1 ci _ hc
  obtain ⟨cf, kf, fi, f, hi2, hsl⟩ := hS i hi
  have hlay := hts _ (hin _ (u_in_lay hi))
  unfold u_lay at hlay
  rw [if_neg (by rw [hfin]; decide)] at hlay
  have hst := (u_facts hfc hkC (u_lays hts hin hi) hi2).1
  have h6 := u_store hfc hkC hkind hlay hi2 hd hnar hfit
  have hi3 : s.fieldFound? ref (T0 i).2.1 (T0 i).2.2.1 = some (cf, kf, fi, f) := by rw [← href]; exact hi2
  refine W.putK hx hb (f := f) ⟨hown, hts _ hlink, ⟨_, _, _, hi3⟩, hst⟩ (by rw [q2]; exact h6) q1 q3 (by rw [hsl]; exact k2_hasslot (q4 i hi)) rfl rfl hdg fun H' e1 e2 e3 => ?_
  rw [hsl] at e1 ⊢
  exact kk H' _ (G.set hnk hE hc hap hi hl hset q2 q3 q4 e1 e2 e3)
theorem n_putF {n : Nat} {ci N index : Nat} {T0 : u_T} {fs fs' : List Value} {E0 : Nat → va_E} (C : Cx p s m args meth c cc own nL ret D cI cZ cO) (hn : meth.name = "<init>") (G : Bd b k D (Yw b cI cZ cO n E0 ci fs) H0 H locs) (hnk : n < k) (hc : vwCl[ci]? = some (own, T0, N)) (hin : ∀ w ∈ u_ws own T0 N, w ∈ TT) (ty0 : Nat → FieldType) (hty : ∀ k, k < N → parseFieldDescriptor (T0 k).2.2.1 = some (ty0 k)) (hnm : ∀ a, a < N → ∀ b, b < N → a ≠ b → (T0 a).2.1 ≠ (T0 b).2.1) (i : Nat) (hi : i < N) {ref : String} (hlink : Cond.fieldLink own index ref (T0 i).2.1 (T0 i).2.2.1 ∈ TT) (href : (T0 i).1 = ref) (hown2 : ref = own) (hfin : (T0 i).2.2.2 = true) {v : Value} {ty : FieldType} (hd : parseFieldDescriptor (T0 i).2.2.1 = some ty) (hnar : narrow ty v = v) (hfit : fits ty v = true) (hl : i < fs.length) (hset : fs.set i v = fs') (hdg : decode cc pc = .ok (.putfield index, 3))
    (kk : ∀ (H1 : Heap) (locs1 : List Loc), Bd b k D (Yw b cI cZ cO n E0 ci fs') H0 H1 locs1 → W p l e R s m args below meth c H1 locs1 cells slots Q (F0 m (pc + 3) ls rest)) : W p l e R s m args below meth c H locs cells slots Q (F0 m pc ls (v :: .ref (b + n) :: rest)) := n_putFE C hn G hnk (by unfold Yw; rw [if_neg (by omega), if_pos rfl]) hc hin ty0 hty hnm i hi hlink href hown2 hfin hd hnar hfit hl hset hdg (fun H1 locs1 G1 => kk H1 locs1 (by rw [Yw_up] at G1; exact G1))
theorem n_put {n : Nat} {ci N index : Nat} {T0 : u_T} {fs fs' : List Value} {E0 : Nat → va_E} (C : Cx p s m args meth c cc own nL ret D cI cZ cO) (G : Bd b k D (Yw b cI cZ cO n E0 ci fs) H0 H locs) (hnk : n < k) (hc : vwCl[ci]? = some (own, T0, N)) (hin : ∀ w ∈ u_ws own T0 N, w ∈ TT) (ty0 : Nat → FieldType) (hty : ∀ k, k < N → parseFieldDescriptor (T0 k).2.2.1 = some (ty0 k)) (hnm : ∀ a, a < N → ∀ b, b < N → a ≠ b → (T0 a).2.1 ≠ (T0 b).2.1) (i : Nat) (hi : i < N) {ref : String} (hlink : Cond.fieldLink own index ref (T0 i).2.1 (T0 i).2.2.1 ∈ TT) (href : (T0 i).1 = ref) (hfin : (T0 i).2.2.2 = false) {v : Value} {ty : FieldType} (hd : parseFieldDescriptor (T0 i).2.2.1 = some ty) (hnar : narrow ty v = v) (hfit : fits ty v = true) (hl : i < fs.length) (hset : fs.set i v = fs') (hdg : decode cc pc = .ok (.putfield index, 3))
    (kk : ∀ (H1 : Heap) (locs1 : List Loc), Bd b k D (Yw b cI cZ cO n E0 ci fs') H0 H1 locs1 → W p l e R s m args below meth c H1 locs1 cells slots Q (F0 m (pc + 3) ls rest)) : W p l e R s m args below meth c H locs cells slots Q (F0 m pc ls (v :: .ref (b + n) :: rest)) := n_putE C G hnk (by unfold Yw; rw [if_neg (by omega), if_pos rfl]) hc hin ty0 hty hnm i hi hlink href hfin hd hnar hfit hl hset hdg (fun H1 locs1 G1 => kk H1 locs1 (by rw [Yw_up] at G1; exact G1))
theorem n_get {n : Nat} {ci N index : Nat} {T0 : u_T} {C0 : String} {fs : List Value} (C : Cx p s m args meth c cc own nL ret D cI cZ cO) (G : Bd b k D E H0 H locs) (hnk : n < k) (he : E n = .inr (ci, fs)) (hc : vwCl[ci]? = some (C0, T0, N)) (hin : ∀ w ∈ u_ws C0 T0 N, w ∈ TT) (i : Nat) (hi : i < N) {ref : String} (hlink : Cond.fieldLink own index ref (T0 i).2.1 (T0 i).2.2.1 ∈ TT) (href : (T0 i).1 = ref) {v : Value} (hv : fs[i]? = some v) (hdg : decode cc pc = .ok (.getfield index, 3))
    (kk : W p l e R s m args below meth c H locs cells slots Q (F0 m (pc + 3) ls (v :: rest))) : W p l e R s m args below meth c H locs cells slots Q (F0 m pc ls (.ref (b + n) :: rest)) := by
  obtain ⟨hx, hb, hml, hown, hts, hK, hr, hlocks⟩ := C
  subst href
  exact va_get hx hb hts hin hown hK G.2.1 n (by rw [wl_at b _ hnk, he]) hc i hi (hts _ hlink) (fun _ h9 => h9) hv hdg kk
theorem n_aast {q n : Nat} {vs : List Value} {f : Nat → Option Nat} {N : Nat} (C : Cx p s m args meth c cc own nL ret D cI cZ cO) (G : Bd b k D E H0 H locs) (hq : q < k) (hn : n < k) (hE : E q = .inl (cO, N, .inr (.inr (.inr (.inr f))))) (hEn : E n = .inr (10, vs)) {i : Int32} (hin : vp_in i N) (hdg : decode cc pc = .ok (.aastore, 1))
    (kk : ∀ (H1 : Heap) (locs1 : List Loc), Bd b k D (va_up E q (.inl (cO, N, .inr (.inr (.inr (.inr (va_up f i.toNatClampNeg (some (b + n))))))))) H0 H1 locs1 → W p l e R s m args below meth c H1 locs1 cells slots Q (F0 m (pc + 1) ls rest)) : W p l e R s m args below meth c H locs cells slots Q (F0 m pc ls (.ref (b + n) :: .int i :: .ref (b + q) :: rest)) := by
  obtain ⟨hx, hb, hml, hown, hts, hK, hr, hlocks⟩ := C
  have ha : (wl b k E)[q]? = some (b + q, .inl (cO, N, .inr (.inr (.inr (.inr f))))) := by rw [wl_at b _ hq, hE]
  have hv : (wl b k E)[n]? = some (b + n, .inr (10, vs)) := by rw [wl_at b _ hn, hEn]
  have hlt : i.toNatClampNeg < N := Nat.not_le.mp fun q => hin (Or.inr q)
  have h0 : ¬ i < 0 := fun q => hin (Or.inl q)
  obtain ⟨r', hr', cellV, g1, g2, g3, -⟩ := G.2.1 n _ hv
  have hcls := (hK.1 10 (RX10, TX10, 9) rfl).2
  obtain ⟨kA, comp, k1, k2, k3, -⟩ := (hK.2 2 (cO, .object "AnsweredFates$State") rfl).2
  have hcomp : comp = D.1 10 := Option.some.inj (k3.symm.trans hcls.1)
  subst hcomp
  obtain ⟨kC, hkC, -⟩ := hcls.2
  refine W.aast hx hb (G.2.1 q _ ha) (fun q h => by cases h) (fun h => by cases h) k1 k2 rfl hkC ⟨h0, by show _ < (arrV _ _ _).slots.size; rw [arrV_size]; exact hlt⟩ g1 (fun q h => by rw [g3] at h; cases h) (by rw [g2]; exact hkC) (by rw [g2]; exact va_assign hcls) rfl rfl hdg fun H1 e1 z oq => ?_
  refine kk H1 _ ⟨by rw [z]; exact G.1, ?_, G.2.2.put z oq (Nat.le_add_right b q)⟩
  have h := G.2.1.set (wl_D b k _) ha (e := .inl (cO, N, .inr (.inr (.inr (.inr (va_up f i.toNatClampNeg (some (b + n)))))))) (by
    show H1[b + q]? = some (vp_cell _ _)
    rw [e1, vp_cell_q, vp_cell_q, arrV_store]
    congr 2
    funext q
    by_cases hq : q = i.toNatClampNeg
    · subst hq
      simp [updV, va_up, va_rf]
    · simp [updV, va_up, hq]) oq
  rw [wl_set] at h
  exact h
theorem blindq {av : List Value} : FrameBlind (va_Pc av (Wq b k D cI cZ cO E)) := fun a U g mk q => by
  obtain ⟨q0, q1, qP, qK, qN⟩ := q
  exact ⟨q0, q1, qP, va_K.moved (u := U) (U := U.calling g mk a) (Vm.Alike.refl U.vm) qK, fun x hx => va_Nw.same rfl (show U.vm = (U.calling g mk a).vm from rfl) (qN.1 x hx), va_AO.moved (u := U) (U := U.calling g mk a) (Vm.Alike.refl U.vm) qN.2⟩
/-- what is done behind k is done in E too -/
theorem Exw_congr {sz : Nat} {x : va_E} (hE : ∀ j, k ≤ j → E j = ent b cI cZ cO s0 j) : ∀ j, j < k + sz → Exw b cI cZ cO k (va_up E k x) j = E j := by
  intro j _
  unfold Exw
  by_cases q : j < k
  · rw [if_pos q, va_up_ne _ _ (by omega)]
  · rw [if_neg q, hE j (by omega)]
theorem n_call {y : MethodName} {cb : ByteArray} {nk ar index sz ci mc ms : Nat} {dfl : List Value} {rm : Room} {As : List Value} (C : Cx p s m args meth c cc own nL ret D cI cZ cO) (hX : Nx s) (G : Bd b (k + 1) D (va_up E k (.inr (ci, dfl))) H0 H locs) (hE : ∀ j, k ≤ j → E j = ent b cI cZ cO s0 j) (hlz : ls.size = nL) (hM : MK l y cb nk rm (.ref (b + k) :: As) b D cI cZ cO k sz ci dfl mc ms) (hw : Cond.methodLink own index y ∈ TT ∧ Cond.instanceMethod y ∈ TT ∧ Cond.initialized y.cls ∈ TT ∧ Cond.code y cb nk none ∈ TT) (hy : y.name = "<init>" ∧ y.cls ≠ "java/lang/invoke/MethodHandle" ∧ y.cls ≠ "java/lang/invoke/VarHandle" ∧ (parseMethodDescriptor y.desc).map (fun d => d.parameters.length) = some ar) (har : As.length = ar) (hrm : rm.cells = mc ∧ rm.slots = ms) (hR : rm.frames + 1 ≤ R.frames ∧ 8 + (nk + 11) + rm.locals ≤ R.locals) (hroom : (rest.map fun v => v.category).sum ≤ 8) (hcs : cells + mc ≤ R.cells ∧ slots + ms ≤ R.slots) (hdg : decode cc pc = .ok (.invokespecial index, 3)) {stk : List Value} (hst : stk = As.reverse ++ .ref (b + k) :: rest)
    (kk : ∀ (H1 : Heap) (locs1 : List Loc), Bd b (k + sz) D E H0 H1 locs1 → W p l e R s m args below meth c H1 locs1 (cells + mc) (slots + ms) Q (F0 m (pc + 3) ls rest)) : W p l e R s m args below meth c H locs cells slots Q (F0 m pc ls stk) := by
  obtain ⟨hx, hb, hml, hown, hts, hK, hr, hlocks⟩ := C
  obtain ⟨w1, w2, w3, w4⟩ := hw
  have hG : GoodIn TT (Cond.code y cb nk none :: TT) := by
    intro w hw
    rcases List.mem_cons.mp hw with h | h
    · exact h ▸ gw w4
    · exact gw h
  refine va_callv (va_runI (As := As) (rest := rest) ⟨hx, hb, hml, hown, hts⟩ (hM _ (va_up_self _ _ _)) (cwI ar hts hG rfl hrm.1 hrm.2 (hts _ w3) (hts _ w1) (hts _ w2) hy.1 hy.2 hR) ⟨blindq, fun U hU hW => ⟨rfl, by rw [hU]; exact G.1, by rw [hU]; exact G.2.1, va_K.moved hW.alike hK, hX.warm hW⟩⟩ rfl har hlz hst (lv_room hroom) hdg hcs) G.2.2 (fun q _ h => h) (fun q h => h) (fun u t H1 locs1 ht hvm hw1 hB hz1 hk1 hS1 => ?_)
  exact kk H1 locs1 (Bd.congr ⟨by rw [← ht]; exact hB.1, by rw [← ht]; exact hB.2, hS1⟩ (Exw_congr hE))
theorem n_callN {y : MethodName} {cb : ByteArray} {nk ar index sz ci mc ms : Nat} {dfl : List Value} {rm : Room} {As : List Value} {host : String} (C : Cx p s m args meth c cc own nL ret D cI cZ cO) (hX : Nx s) (G : Bd b (k + 1) D (va_up E k (.inr (ci, dfl))) H0 H locs) (hE : ∀ j, k ≤ j → E j = ent b cI cZ cO s0 j) (hlz : ls.size = nL) (hM : MK l y cb nk rm (.ref (b + k) :: As) b D cI cZ cO k sz ci dfl mc ms) (hw : (own, index, y, host) ∈ nstQ ∧ Cond.instanceMethod y ∈ TT ∧ Cond.initialized y.cls ∈ TT ∧ Cond.code y cb nk none ∈ TT) (hy : y.name = "<init>" ∧ y.cls ≠ "java/lang/invoke/MethodHandle" ∧ y.cls ≠ "java/lang/invoke/VarHandle" ∧ (parseMethodDescriptor y.desc).map (fun d => d.parameters.length) = some ar) (har : As.length = ar) (hrm : rm.cells = mc ∧ rm.slots = ms) (hR : rm.frames + 1 ≤ R.frames ∧ 8 + (nk + 11) + rm.locals ≤ R.locals) (hroom : (rest.map fun v => v.category).sum ≤ 8) (hcs : cells + mc ≤ R.cells ∧ slots + ms ≤ R.slots) (hdg : decode cc pc = .ok (.invokespecial index, 3)) {stk : List Value} (hst : stk = As.reverse ++ .ref (b + k) :: rest)
    (kk : ∀ (H1 : Heap) (locs1 : List Loc), Bd b (k + sz) D E H0 H1 locs1 → W p l e R s m args below meth c H1 locs1 (cells + mc) (slots + ms) Q (F0 m (pc + 3) ls rest)) : W p l e R s m args below meth c H locs cells slots Q (F0 m pc ls stk) := by
  obtain ⟨hx, hb, hml, hown, hts, hK, hr, hlocks⟩ := C
  obtain ⟨w1, w2, w3, w4⟩ := hw
  have hG : GoodIn TT (Cond.code y cb nk none :: TT) := by
    intro w hw
    rcases List.mem_cons.mp hw with h | h
    · exact h ▸ gw w4
    · exact gw h
  refine va_callv (va_runIN (host := host) (As := As) (rest := rest) ⟨hx, hb, hml, hown, hts⟩ (hM _ (va_up_self _ _ _)) ⟨va_cnB ar hts hG rfl hrm.1 hrm.2 (hX.1 _ w1) (hts _ w3) hy.2 hR, hy.1, hts _ w2⟩ ⟨blindq, fun U hU hW => ⟨rfl, by rw [hU]; exact G.1, by rw [hU]; exact G.2.1, va_K.moved hW.alike hK, hX.warm hW⟩⟩ rfl har hlz hst (lv_room hroom) hdg hcs) G.2.2 (fun q _ h => h) (fun q h => h) (fun u t H1 locs1 ht hvm hw1 hB hz1 hk1 hS1 => ?_)
  exact kk H1 locs1 (Bd.congr ⟨by rw [← ht]; exact hB.1, by rw [← ht]; exact hB.2, hS1⟩ (Exw_congr hE))
theorem n_ret {n ci : Nat} {fs : List Value} {E0 : Nat → va_E} (C : Cx p s m args meth c cc own nL none D cI cZ cO) (G : Bd b k D (Yw b cI cZ cO n E0 ci fs) s.heap H locs) (hT : ent b cI cZ cO s0 n = .inr (ci, fs)) (hdg : decode cc pc = .ok (.return_, 1)) : W p l e R s m args below meth c H locs cells slots (MQ below (QK b k D (Exw b cI cZ cO n E0)) args s cells slots (fun q => b ≤ q)) (F0 m pc ls []) := by
  obtain ⟨hx, hb, hml, hown, hts, hK, hr, hlocks⟩ := C
  have G2 : Bd b k D (Exw b cI cZ cO n E0) s.heap H locs := G.congr (fun j _ => by
    unfold Yw Exw
    by_cases q : j < n
    · rw [if_pos q, if_pos q]
    · rw [if_neg q, if_neg q]
      by_cases z : j = n
      · rw [if_pos z, z, hT]
      · rw [if_neg z])
  exact W.vret hx hb hr (fun t ht hW => ⟨⟨(), rfl, trivial, by rw [ht]; exact G2.1, by rw [ht]; exact G2.2.1⟩, G2.2.2.F ht⟩) G2.2.2.2.2 hdg hlocks
end NRows
theorem metK {l : Launch} {y : MethodName} {cc : ByteArray} {nL : Nat} {rm : Room} {av : List Value} {b : Nat} {D : va_G} {cI cZ cO : ClassId} {n sz ci mc ms : Nat} {dfl : List Value} (hy : plainName y.cls = true) (hyn : y.name = "<init>") (hle : (lg_sl av).length ≤ nL)
    (body : ∀ (E0 : Nat → va_E) (p : Program) (e : Env) (s : State) (m : MethodId) (below : List Frame) (meth : Method) (c : Code) (ls : Array Slot), E0 n = .inr (ci, dfl) → Cx p s m av.toArray meth c cc y.cls nL none D cI cZ cO → meth.name = "<init>" → Nx s → Bd b (n + 1) D (Yw b cI cZ cO n E0 ci dfl) s.heap s.heap [] → lv_has ls nL (lv_args 0 av) → W p l e rm s m av.toArray below meth c s.heap [] 0 0 (MQ below (QK b (n + sz) D (Exw b cI cZ cO n E0)) av.toArray s mc ms (fun q => b ≤ q)) (F0 m 0 ls [])) : MK l y cc nL rm av b D cI cZ cO n sz ci dfl mc ms := by
  intro E hE
  refine Met.ofW (cc := cc) (maxL := nL) (ret := none) hy rfl ?_
  intro p e s m args below meth c s₁ B hml hv
  obtain ⟨rfl, hsz, hP, hK, hX⟩ := hv
  have hts := atoms_spec (ws := Cond.code y cc nL none :: TT) B.pre
  have hl := lv_entry av (n := nL) hle
  have hin : meth.name = "<init>" := (name_of_methodNamed B.named B.method).1.trans hyn
  rw [lg_entry_eq]
  refine body E p e s m below meth c _ hE ⟨B.exec, B.bytes, hml, findClass_of_methodNamed B.named, fun w h => hts w (List.mem_cons_of_mem _ h), hK, B.returns, B.notSynchronized⟩ hin hX (Bd.congr (E := E) ⟨hsz, hP, va_S.rf⟩ (fun j hj => ?_)) hl
  unfold Yw
  by_cases q : j < n
  · rw [if_pos q]
  · have : j = n := by omega
    rw [if_neg q, if_pos this, this, hE]
