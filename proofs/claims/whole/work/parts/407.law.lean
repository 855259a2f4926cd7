/-! THE LAW: its cases -/
theorem lw_in {i j L : Nat} (h : i + j < L) (hL : L ≤ 2048) : vp_in (nI i + nI j) L := by
  rw [nI_add]
  exact vp_in_nI h (by omega)
section Law
variable {p : Program} {l : Launch} {e : Env} {s : State} {m : MethodId} {below : List Frame} {meth : Method} {c : Code} {D : va_G} {cI cZ cO : ClassId} {b0 L : Nat} {xs : Nat → Int32}
set_option maxRecDepth 100000 in
set_option maxHeartbeats 4000000 in
theorem lc_feed (C : Cx p s m #[.ref b0] meth c cL_law RL 4 (some .boolean) D cI cZ cO) (hXs : va_X b0 L xs s s.heap) (hbl : b0 < s.heap.size) {i : Nat} (hi : i + 4 ≤ L) (hL : L ≤ 2048) {σ : Sg} (I : Inv σ) {H : Heap} {locs : List Loc} (G : Gd s.heap.size D cI cZ cO σ s.heap H locs) {ls : Array Slot} (hl : lv_has ls 4 [(0, .ref b0), (1, .ref (s.heap.size + 0)), (2, .ref (s.heap.size + 132)), (3, .int (nI i))]) {Q : State → Prop} (next : ∀ (σ : Sg) (H : Heap) (locs : List Loc), Inv σ → Gd s.heap.size D cI cZ cO σ s.heap H locs → W p l e room_1 s m #[.ref b0] below meth c H locs 151 4204 Q (F0 m 783 ls [])) : W p l e room_1 s m #[.ref b0] below meth c H locs 151 4204 Q (F0 m 148 ls []) := by
  have hx := C.1
  have hb := C.2.1
  have hbA : ¬ (fun q : Nat => s.heap.size ≤ q) b0 := Nat.not_le.mpr hbl
  obtain ⟨v, τ, υ, e1, e2, I2⟩ := b_feed (xs (nI i + 1).toNatClampNeg) I
  refine lv_aload_n hx hb dL_law_148 rfl (lv_at hl 1 rfl) ?_
  refine lv_aload_n hx hb dL_law_149 rfl (lv_at hl 0 rfl) ?_
  refine lv_iload_n hx hb dL_law_150 rfl (lv_at hl 3 rfl) ?_
  refine lv_iconst (v := 1) hx hb dL_law_151 (by decide) ?_
  refine lv_iadd hx hb dL_law_152 ?_
  refine va_sld hx hb hXs hbl hbA G.2 (lw_in (j := 1) (by omega) hL) dL_law_153 ?_
  refine callVI (ar := 1) (As := [.int (xs (nI i + 1).toNatClampNeg)]) (rest := []) C G hl.1 (ctX11_feed _ e1) ⟨wd_418, wd_419, wd_420, wd_69, wd_421⟩ (by decide +kernel) rfl ⟨rfl, rfl⟩ ⟨(Nat.le_of_ble_eq_true rfl), (Nat.le_of_ble_eq_true rfl)⟩ (by omega) (ent_11 _ cI cZ cO _ kd_0) rfl (Nat.le_of_ble_eq_true rfl) ⟨(Nat.le_of_ble_eq_true rfl), (Nat.le_of_ble_eq_true rfl)⟩ dL_law_154 rfl (fun H locs G => ?_)
  refine lv_aload_n hx hb dL_law_157 rfl (lv_at hl 2 rfl) ?_
  refine lv_aload_n hx hb dL_law_158 rfl (lv_at hl 0 rfl) ?_
  refine lv_iload_n hx hb dL_law_159 rfl (lv_at hl 3 rfl) ?_
  refine lv_iconst (v := 1) hx hb dL_law_160 (by decide) ?_
  refine lv_iadd hx hb dL_law_161 ?_
  refine va_sld hx hb hXs hbl hbA G.2 (lw_in (j := 1) (by omega) hL) dL_law_162 ?_
  refine callVI (ar := 1) (As := [.int (xs (nI i + 1).toNatClampNeg)]) (rest := [.int v]) C G hl.1 (ctX12_feed _ e2) ⟨wd_983, wd_984, wd_985, wd_81, wd_986⟩ (by decide +kernel) rfl ⟨rfl, rfl⟩ ⟨(Nat.le_of_ble_eq_true rfl), (Nat.le_of_ble_eq_true rfl)⟩ (by omega) (ent_12 _ cI cZ cO _ kd_132) rfl (Nat.le_of_ble_eq_true rfl) ⟨(Nat.le_of_ble_eq_true rfl), (Nat.le_of_ble_eq_true rfl)⟩ dL_law_163 rfl (fun H locs G => ?_)
  exact lv_icmp_eq (tgt := 783) hx hb dL_law_166 (by decide) (fun _ => next υ H locs I2 G) (fun c1 => absurd rfl c1)
set_option maxRecDepth 100000 in
set_option maxHeartbeats 4000000 in
theorem lc_hills (C : Cx p s m #[.ref b0] meth c cL_law RL 4 (some .boolean) D cI cZ cO) (hXs : va_X b0 L xs s s.heap) (hbl : b0 < s.heap.size) {i : Nat} (hi : i + 4 ≤ L) (hL : L ≤ 2048) {σ : Sg} (I : Inv σ) {H : Heap} {locs : List Loc} (G : Gd s.heap.size D cI cZ cO σ s.heap H locs) {ls : Array Slot} (hl : lv_has ls 4 [(0, .ref b0), (1, .ref (s.heap.size + 0)), (2, .ref (s.heap.size + 132)), (3, .int (nI i))]) {Q : State → Prop} (next : ∀ (σ : Sg) (H : Heap) (locs : List Loc), Inv σ → Gd s.heap.size D cI cZ cO σ s.heap H locs → W p l e room_1 s m #[.ref b0] below meth c H locs 151 4204 Q (F0 m 783 ls [])) : W p l e room_1 s m #[.ref b0] below meth c H locs 151 4204 Q (F0 m 171 ls []) := by
  have hx := C.1
  have hb := C.2.1
  have hbA : ¬ (fun q : Nat => s.heap.size ≤ q) b0 := Nat.not_le.mpr hbl
  obtain ⟨v, τ, υ, e1, e2, I2⟩ := b_hills  I
  refine lv_aload_n hx hb dL_law_171 rfl (lv_at hl 1 rfl) ?_
  refine callVI (ar := 0) (As := []) (rest := []) C G hl.1 (ctX11_hills _ e1) ⟨wd_428, wd_429, wd_430, wd_69, wd_431⟩ (by decide +kernel) rfl ⟨rfl, rfl⟩ ⟨(Nat.le_of_ble_eq_true rfl), (Nat.le_of_ble_eq_true rfl)⟩ (by omega) (ent_11 _ cI cZ cO _ kd_0) rfl (Nat.le_of_ble_eq_true rfl) ⟨(Nat.le_of_ble_eq_true rfl), (Nat.le_of_ble_eq_true rfl)⟩ dL_law_172 rfl (fun H locs G => ?_)
  refine lv_aload_n hx hb dL_law_175 rfl (lv_at hl 2 rfl) ?_
  refine callVI (ar := 0) (As := []) (rest := [.int v]) C G hl.1 (ctX12_hills _ e2) ⟨wd_993, wd_994, wd_995, wd_81, wd_996⟩ (by decide +kernel) rfl ⟨rfl, rfl⟩ ⟨(Nat.le_of_ble_eq_true rfl), (Nat.le_of_ble_eq_true rfl)⟩ (by omega) (ent_12 _ cI cZ cO _ kd_132) rfl (Nat.le_of_ble_eq_true rfl) ⟨(Nat.le_of_ble_eq_true rfl), (Nat.le_of_ble_eq_true rfl)⟩ dL_law_176 rfl (fun H locs G => ?_)
  exact lv_icmp_eq (tgt := 783) hx hb dL_law_179 (by decide) (fun _ => next υ H locs I2 G) (fun c1 => absurd rfl c1)
set_option maxRecDepth 100000 in
set_option maxHeartbeats 4000000 in
theorem lc_fault (C : Cx p s m #[.ref b0] meth c cL_law RL 4 (some .boolean) D cI cZ cO) (hXs : va_X b0 L xs s s.heap) (hbl : b0 < s.heap.size) {i : Nat} (hi : i + 4 ≤ L) (hL : L ≤ 2048) {σ : Sg} (I : Inv σ) {H : Heap} {locs : List Loc} (G : Gd s.heap.size D cI cZ cO σ s.heap H locs) {ls : Array Slot} (hl : lv_has ls 4 [(0, .ref b0), (1, .ref (s.heap.size + 0)), (2, .ref (s.heap.size + 132)), (3, .int (nI i))]) {Q : State → Prop} (next : ∀ (σ : Sg) (H : Heap) (locs : List Loc), Inv σ → Gd s.heap.size D cI cZ cO σ s.heap H locs → W p l e room_1 s m #[.ref b0] below meth c H locs 151 4204 Q (F0 m 783 ls [])) : W p l e room_1 s m #[.ref b0] below meth c H locs 151 4204 Q (F0 m 184 ls []) := by
  have hx := C.1
  have hb := C.2.1
  have hbA : ¬ (fun q : Nat => s.heap.size ≤ q) b0 := Nat.not_le.mpr hbl
  obtain ⟨v, τ, υ, e1, e2, I2⟩ := b_fault  I
  refine lv_aload_n hx hb dL_law_184 rfl (lv_at hl 1 rfl) ?_
  refine callVI (ar := 0) (As := []) (rest := []) C G hl.1 (ctX11_fault _ e1) ⟨wd_513, wd_514, wd_515, wd_69, wd_516⟩ (by decide +kernel) rfl ⟨rfl, rfl⟩ ⟨(Nat.le_of_ble_eq_true rfl), (Nat.le_of_ble_eq_true rfl)⟩ (by omega) (ent_11 _ cI cZ cO _ kd_0) rfl (Nat.le_of_ble_eq_true rfl) ⟨(Nat.le_of_ble_eq_true rfl), (Nat.le_of_ble_eq_true rfl)⟩ dL_law_185 rfl (fun H locs G => ?_)
  refine lv_aload_n hx hb dL_law_188 rfl (lv_at hl 2 rfl) ?_
  refine callVI (ar := 0) (As := []) (rest := [.int v]) C G hl.1 (ctX12_fault _ e2) ⟨wd_1033, wd_1034, wd_1035, wd_81, wd_1036⟩ (by decide +kernel) rfl ⟨rfl, rfl⟩ ⟨(Nat.le_of_ble_eq_true rfl), (Nat.le_of_ble_eq_true rfl)⟩ (by omega) (ent_12 _ cI cZ cO _ kd_132) rfl (Nat.le_of_ble_eq_true rfl) ⟨(Nat.le_of_ble_eq_true rfl), (Nat.le_of_ble_eq_true rfl)⟩ dL_law_189 rfl (fun H locs G => ?_)
  exact lv_icmp_eq (tgt := 783) hx hb dL_law_192 (by decide) (fun _ => next υ H locs I2 G) (fun c1 => absurd rfl c1)
set_option maxRecDepth 100000 in
set_option maxHeartbeats 4000000 in
theorem lc_told (C : Cx p s m #[.ref b0] meth c cL_law RL 4 (some .boolean) D cI cZ cO) (hXs : va_X b0 L xs s s.heap) (hbl : b0 < s.heap.size) {i : Nat} (hi : i + 4 ≤ L) (hL : L ≤ 2048) {σ : Sg} (I : Inv σ) {H : Heap} {locs : List Loc} (G : Gd s.heap.size D cI cZ cO σ s.heap H locs) {ls : Array Slot} (hl : lv_has ls 4 [(0, .ref b0), (1, .ref (s.heap.size + 0)), (2, .ref (s.heap.size + 132)), (3, .int (nI i))]) {Q : State → Prop} (next : ∀ (σ : Sg) (H : Heap) (locs : List Loc), Inv σ → Gd s.heap.size D cI cZ cO σ s.heap H locs → W p l e room_1 s m #[.ref b0] below meth c H locs 151 4204 Q (F0 m 783 ls [])) : W p l e room_1 s m #[.ref b0] below meth c H locs 151 4204 Q (F0 m 197 ls []) := by
  have hx := C.1
  have hb := C.2.1
  have hbA : ¬ (fun q : Nat => s.heap.size ≤ q) b0 := Nat.not_le.mpr hbl
  obtain ⟨v, τ, υ, e1, e2, I2⟩ := b_told (xs (nI i + 1).toNatClampNeg) I
  refine lv_aload_n hx hb dL_law_197 rfl (lv_at hl 1 rfl) ?_
  refine lv_aload_n hx hb dL_law_198 rfl (lv_at hl 0 rfl) ?_
  refine lv_iload_n hx hb dL_law_199 rfl (lv_at hl 3 rfl) ?_
  refine lv_iconst (v := 1) hx hb dL_law_200 (by decide) ?_
  refine lv_iadd hx hb dL_law_201 ?_
  refine va_sld hx hb hXs hbl hbA G.2 (lw_in (j := 1) (by omega) hL) dL_law_202 ?_
  refine callVI (ar := 1) (As := [.int (xs (nI i + 1).toNatClampNeg)]) (rest := []) C G hl.1 (ctX11_told _ e1) ⟨wd_517, wd_518, wd_519, wd_69, wd_520⟩ (by decide +kernel) rfl ⟨rfl, rfl⟩ ⟨(Nat.le_of_ble_eq_true rfl), (Nat.le_of_ble_eq_true rfl)⟩ (by omega) (ent_11 _ cI cZ cO _ kd_0) rfl (Nat.le_of_ble_eq_true rfl) ⟨(Nat.le_of_ble_eq_true rfl), (Nat.le_of_ble_eq_true rfl)⟩ dL_law_203 rfl (fun H locs G => ?_)
  refine lv_aload_n hx hb dL_law_206 rfl (lv_at hl 2 rfl) ?_
  refine lv_aload_n hx hb dL_law_207 rfl (lv_at hl 0 rfl) ?_
  refine lv_iload_n hx hb dL_law_208 rfl (lv_at hl 3 rfl) ?_
  refine lv_iconst (v := 1) hx hb dL_law_209 (by decide) ?_
  refine lv_iadd hx hb dL_law_210 ?_
  refine va_sld hx hb hXs hbl hbA G.2 (lw_in (j := 1) (by omega) hL) dL_law_211 ?_
  refine callVI (ar := 1) (As := [.int (xs (nI i + 1).toNatClampNeg)]) (rest := [.int v]) C G hl.1 (ctX12_told _ e2) ⟨wd_1037, wd_1038, wd_1039, wd_81, wd_1040⟩ (by decide +kernel) rfl ⟨rfl, rfl⟩ ⟨(Nat.le_of_ble_eq_true rfl), (Nat.le_of_ble_eq_true rfl)⟩ (by omega) (ent_12 _ cI cZ cO _ kd_132) rfl (Nat.le_of_ble_eq_true rfl) ⟨(Nat.le_of_ble_eq_true rfl), (Nat.le_of_ble_eq_true rfl)⟩ dL_law_212 rfl (fun H locs G => ?_)
  exact lv_icmp_eq (tgt := 783) hx hb dL_law_215 (by decide) (fun _ => next υ H locs I2 G) (fun c1 => absurd rfl c1)
set_option maxRecDepth 100000 in
set_option maxHeartbeats 4000000 in
theorem lc_person (C : Cx p s m #[.ref b0] meth c cL_law RL 4 (some .boolean) D cI cZ cO) (hXs : va_X b0 L xs s s.heap) (hbl : b0 < s.heap.size) {i : Nat} (hi : i + 4 ≤ L) (hL : L ≤ 2048) {σ : Sg} (I : Inv σ) {H : Heap} {locs : List Loc} (G : Gd s.heap.size D cI cZ cO σ s.heap H locs) {ls : Array Slot} (hl : lv_has ls 4 [(0, .ref b0), (1, .ref (s.heap.size + 0)), (2, .ref (s.heap.size + 132)), (3, .int (nI i))]) {Q : State → Prop} (next : ∀ (σ : Sg) (H : Heap) (locs : List Loc), Inv σ → Gd s.heap.size D cI cZ cO σ s.heap H locs → W p l e room_1 s m #[.ref b0] below meth c H locs 151 4204 Q (F0 m 783 ls [])) : W p l e room_1 s m #[.ref b0] below meth c H locs 151 4204 Q (F0 m 220 ls []) := by
  have hx := C.1
  have hb := C.2.1
  have hbA : ¬ (fun q : Nat => s.heap.size ≤ q) b0 := Nat.not_le.mpr hbl
  obtain ⟨v, τ, υ, e1, e2, I2⟩ := b_person (xs (nI i + 1).toNatClampNeg) (xs (nI i + 2).toNatClampNeg) I
  refine lv_aload_n hx hb dL_law_220 rfl (lv_at hl 1 rfl) ?_
  refine lv_aload_n hx hb dL_law_221 rfl (lv_at hl 0 rfl) ?_
  refine lv_iload_n hx hb dL_law_222 rfl (lv_at hl 3 rfl) ?_
  refine lv_iconst (v := 1) hx hb dL_law_223 (by decide) ?_
  refine lv_iadd hx hb dL_law_224 ?_
  refine va_sld hx hb hXs hbl hbA G.2 (lw_in (j := 1) (by omega) hL) dL_law_225 ?_
  refine lv_aload_n hx hb dL_law_226 rfl (lv_at hl 0 rfl) ?_
  refine lv_iload_n hx hb dL_law_227 rfl (lv_at hl 3 rfl) ?_
  refine lv_iconst (v := 2) hx hb dL_law_228 (by decide) ?_
  refine lv_iadd hx hb dL_law_229 ?_
  refine va_sld hx hb hXs hbl hbA G.2 (lw_in (j := 2) (by omega) hL) dL_law_230 ?_
  refine callVI (ar := 2) (As := [.int (xs (nI i + 1).toNatClampNeg), .int (xs (nI i + 2).toNatClampNeg)]) (rest := []) C G hl.1 (ctX11_person _ e1) ⟨wd_585, wd_586, wd_587, wd_69, wd_588⟩ (by decide +kernel) rfl ⟨rfl, rfl⟩ ⟨(Nat.le_of_ble_eq_true rfl), (Nat.le_of_ble_eq_true rfl)⟩ (by omega) (ent_11 _ cI cZ cO _ kd_0) rfl (Nat.le_of_ble_eq_true rfl) ⟨(Nat.le_of_ble_eq_true rfl), (Nat.le_of_ble_eq_true rfl)⟩ dL_law_231 rfl (fun H locs G => ?_)
  refine lv_aload_n hx hb dL_law_234 rfl (lv_at hl 2 rfl) ?_
  refine lv_aload_n hx hb dL_law_235 rfl (lv_at hl 0 rfl) ?_
  refine lv_iload_n hx hb dL_law_236 rfl (lv_at hl 3 rfl) ?_
  refine lv_iconst (v := 1) hx hb dL_law_237 (by decide) ?_
  refine lv_iadd hx hb dL_law_238 ?_
  refine va_sld hx hb hXs hbl hbA G.2 (lw_in (j := 1) (by omega) hL) dL_law_239 ?_
  refine lv_aload_n hx hb dL_law_240 rfl (lv_at hl 0 rfl) ?_
  refine lv_iload_n hx hb dL_law_241 rfl (lv_at hl 3 rfl) ?_
  refine lv_iconst (v := 2) hx hb dL_law_242 (by decide) ?_
  refine lv_iadd hx hb dL_law_243 ?_
  refine va_sld hx hb hXs hbl hbA G.2 (lw_in (j := 2) (by omega) hL) dL_law_244 ?_
  refine callVI (ar := 2) (As := [.int (xs (nI i + 1).toNatClampNeg), .int (xs (nI i + 2).toNatClampNeg)]) (rest := [.int v]) C G hl.1 (ctX12_person _ e2) ⟨wd_1103, wd_1104, wd_1105, wd_81, wd_1106⟩ (by decide +kernel) rfl ⟨rfl, rfl⟩ ⟨(Nat.le_of_ble_eq_true rfl), (Nat.le_of_ble_eq_true rfl)⟩ (by omega) (ent_12 _ cI cZ cO _ kd_132) rfl (Nat.le_of_ble_eq_true rfl) ⟨(Nat.le_of_ble_eq_true rfl), (Nat.le_of_ble_eq_true rfl)⟩ dL_law_245 rfl (fun H locs G => ?_)
  exact lv_icmp_eq (tgt := 783) hx hb dL_law_248 (by decide) (fun _ => next υ H locs I2 G) (fun c1 => absurd rfl c1)
set_option maxRecDepth 100000 in
set_option maxHeartbeats 4000000 in
theorem lc_village (C : Cx p s m #[.ref b0] meth c cL_law RL 4 (some .boolean) D cI cZ cO) (hXs : va_X b0 L xs s s.heap) (hbl : b0 < s.heap.size) {i : Nat} (hi : i + 4 ≤ L) (hL : L ≤ 2048) {σ : Sg} (I : Inv σ) {H : Heap} {locs : List Loc} (G : Gd s.heap.size D cI cZ cO σ s.heap H locs) {ls : Array Slot} (hl : lv_has ls 4 [(0, .ref b0), (1, .ref (s.heap.size + 0)), (2, .ref (s.heap.size + 132)), (3, .int (nI i))]) {Q : State → Prop} (next : ∀ (σ : Sg) (H : Heap) (locs : List Loc), Inv σ → Gd s.heap.size D cI cZ cO σ s.heap H locs → W p l e room_1 s m #[.ref b0] below meth c H locs 151 4204 Q (F0 m 783 ls [])) : W p l e room_1 s m #[.ref b0] below meth c H locs 151 4204 Q (F0 m 253 ls []) := by
  have hx := C.1
  have hb := C.2.1
  have hbA : ¬ (fun q : Nat => s.heap.size ≤ q) b0 := Nat.not_le.mpr hbl
  obtain ⟨v, τ, υ, e1, e2, I2⟩ := b_village (xs (nI i + 1).toNatClampNeg) (xs (nI i + 2).toNatClampNeg) I
  refine lv_aload_n hx hb dL_law_253 rfl (lv_at hl 1 rfl) ?_
  refine lv_aload_n hx hb dL_law_254 rfl (lv_at hl 0 rfl) ?_
  refine lv_iload_n hx hb dL_law_255 rfl (lv_at hl 3 rfl) ?_
  refine lv_iconst (v := 1) hx hb dL_law_256 (by decide) ?_
  refine lv_iadd hx hb dL_law_257 ?_
  refine va_sld hx hb hXs hbl hbA G.2 (lw_in (j := 1) (by omega) hL) dL_law_258 ?_
  refine lv_aload_n hx hb dL_law_259 rfl (lv_at hl 0 rfl) ?_
  refine lv_iload_n hx hb dL_law_260 rfl (lv_at hl 3 rfl) ?_
  refine lv_iconst (v := 2) hx hb dL_law_261 (by decide) ?_
  refine lv_iadd hx hb dL_law_262 ?_
  refine va_sld hx hb hXs hbl hbA G.2 (lw_in (j := 2) (by omega) hL) dL_law_263 ?_
  refine callVI (ar := 2) (As := [.int (xs (nI i + 1).toNatClampNeg), .int (xs (nI i + 2).toNatClampNeg)]) (rest := []) C G hl.1 (ctX11_village _ e1) ⟨wd_625, wd_626, wd_627, wd_69, wd_628⟩ (by decide +kernel) rfl ⟨rfl, rfl⟩ ⟨(Nat.le_of_ble_eq_true rfl), (Nat.le_of_ble_eq_true rfl)⟩ (by omega) (ent_11 _ cI cZ cO _ kd_0) rfl (Nat.le_of_ble_eq_true rfl) ⟨(Nat.le_of_ble_eq_true rfl), (Nat.le_of_ble_eq_true rfl)⟩ dL_law_264 rfl (fun H locs G => ?_)
  refine lv_aload_n hx hb dL_law_267 rfl (lv_at hl 2 rfl) ?_
  refine lv_aload_n hx hb dL_law_268 rfl (lv_at hl 0 rfl) ?_
  refine lv_iload_n hx hb dL_law_269 rfl (lv_at hl 3 rfl) ?_
  refine lv_iconst (v := 1) hx hb dL_law_270 (by decide) ?_
  refine lv_iadd hx hb dL_law_271 ?_
  refine va_sld hx hb hXs hbl hbA G.2 (lw_in (j := 1) (by omega) hL) dL_law_272 ?_
  refine lv_aload_n hx hb dL_law_273 rfl (lv_at hl 0 rfl) ?_
  refine lv_iload_n hx hb dL_law_274 rfl (lv_at hl 3 rfl) ?_
  refine lv_iconst (v := 2) hx hb dL_law_275 (by decide) ?_
  refine lv_iadd hx hb dL_law_276 ?_
  refine va_sld hx hb hXs hbl hbA G.2 (lw_in (j := 2) (by omega) hL) dL_law_277 ?_
  refine callVI (ar := 2) (As := [.int (xs (nI i + 1).toNatClampNeg), .int (xs (nI i + 2).toNatClampNeg)]) (rest := [.int v]) C G hl.1 (ctX12_village _ e2) ⟨wd_1132, wd_1133, wd_1134, wd_81, wd_1135⟩ (by decide +kernel) rfl ⟨rfl, rfl⟩ ⟨(Nat.le_of_ble_eq_true rfl), (Nat.le_of_ble_eq_true rfl)⟩ (by omega) (ent_12 _ cI cZ cO _ kd_132) rfl (Nat.le_of_ble_eq_true rfl) ⟨(Nat.le_of_ble_eq_true rfl), (Nat.le_of_ble_eq_true rfl)⟩ dL_law_278 rfl (fun H locs G => ?_)
  exact lv_icmp_eq (tgt := 783) hx hb dL_law_281 (by decide) (fun _ => next υ H locs I2 G) (fun c1 => absurd rfl c1)
set_option maxRecDepth 100000 in
set_option maxHeartbeats 4000000 in
theorem lc_tell (C : Cx p s m #[.ref b0] meth c cL_law RL 4 (some .boolean) D cI cZ cO) (hXs : va_X b0 L xs s s.heap) (hbl : b0 < s.heap.size) {i : Nat} (hi : i + 4 ≤ L) (hL : L ≤ 2048) {σ : Sg} (I : Inv σ) {H : Heap} {locs : List Loc} (G : Gd s.heap.size D cI cZ cO σ s.heap H locs) {ls : Array Slot} (hl : lv_has ls 4 [(0, .ref b0), (1, .ref (s.heap.size + 0)), (2, .ref (s.heap.size + 132)), (3, .int (nI i))]) {Q : State → Prop} (next : ∀ (σ : Sg) (H : Heap) (locs : List Loc), Inv σ → Gd s.heap.size D cI cZ cO σ s.heap H locs → W p l e room_1 s m #[.ref b0] below meth c H locs 151 4204 Q (F0 m 783 ls [])) : W p l e room_1 s m #[.ref b0] below meth c H locs 151 4204 Q (F0 m 286 ls []) := by
  have hx := C.1
  have hb := C.2.1
  have hbA : ¬ (fun q : Nat => s.heap.size ≤ q) b0 := Nat.not_le.mpr hbl
  obtain ⟨v, τ, υ, e1, e2, I2⟩ := b_tell (xs (nI i + 1).toNatClampNeg) (xs (nI i + 2).toNatClampNeg) I
  refine lv_aload_n hx hb dL_law_286 rfl (lv_at hl 1 rfl) ?_
  refine lv_aload_n hx hb dL_law_287 rfl (lv_at hl 0 rfl) ?_
  refine lv_iload_n hx hb dL_law_288 rfl (lv_at hl 3 rfl) ?_
  refine lv_iconst (v := 1) hx hb dL_law_289 (by decide) ?_
  refine lv_iadd hx hb dL_law_290 ?_
  refine va_sld hx hb hXs hbl hbA G.2 (lw_in (j := 1) (by omega) hL) dL_law_291 ?_
  refine lv_aload_n hx hb dL_law_292 rfl (lv_at hl 0 rfl) ?_
  refine lv_iload_n hx hb dL_law_293 rfl (lv_at hl 3 rfl) ?_
  refine lv_iconst (v := 2) hx hb dL_law_294 (by decide) ?_
  refine lv_iadd hx hb dL_law_295 ?_
  refine va_sld hx hb hXs hbl hbA G.2 (lw_in (j := 2) (by omega) hL) dL_law_296 ?_
  refine callVI (ar := 2) (As := [.int (xs (nI i + 1).toNatClampNeg), .int (xs (nI i + 2).toNatClampNeg)]) (rest := []) C G hl.1 (ctX11_tell _ e1) ⟨wd_646, wd_647, wd_648, wd_69, wd_649⟩ (by decide +kernel) rfl ⟨rfl, rfl⟩ ⟨(Nat.le_of_ble_eq_true rfl), (Nat.le_of_ble_eq_true rfl)⟩ (by omega) (ent_11 _ cI cZ cO _ kd_0) rfl (Nat.le_of_ble_eq_true rfl) ⟨(Nat.le_of_ble_eq_true rfl), (Nat.le_of_ble_eq_true rfl)⟩ dL_law_297 rfl (fun H locs G => ?_)
  refine lv_aload_n hx hb dL_law_300 rfl (lv_at hl 2 rfl) ?_
  refine lv_aload_n hx hb dL_law_301 rfl (lv_at hl 0 rfl) ?_
  refine lv_iload_n hx hb dL_law_302 rfl (lv_at hl 3 rfl) ?_
  refine lv_iconst (v := 1) hx hb dL_law_303 (by decide) ?_
  refine lv_iadd hx hb dL_law_304 ?_
  refine va_sld hx hb hXs hbl hbA G.2 (lw_in (j := 1) (by omega) hL) dL_law_305 ?_
  refine lv_aload_n hx hb dL_law_306 rfl (lv_at hl 0 rfl) ?_
  refine lv_iload_n hx hb dL_law_307 rfl (lv_at hl 3 rfl) ?_
  refine lv_iconst (v := 2) hx hb dL_law_308 (by decide) ?_
  refine lv_iadd hx hb dL_law_309 ?_
  refine va_sld hx hb hXs hbl hbA G.2 (lw_in (j := 2) (by omega) hL) dL_law_310 ?_
  refine callVI (ar := 2) (As := [.int (xs (nI i + 1).toNatClampNeg), .int (xs (nI i + 2).toNatClampNeg)]) (rest := [.int v]) C G hl.1 (ctX12_tell _ e2) ⟨wd_1148, wd_1149, wd_1150, wd_81, wd_1151⟩ (by decide +kernel) rfl ⟨rfl, rfl⟩ ⟨(Nat.le_of_ble_eq_true rfl), (Nat.le_of_ble_eq_true rfl)⟩ (by omega) (ent_12 _ cI cZ cO _ kd_132) rfl (Nat.le_of_ble_eq_true rfl) ⟨(Nat.le_of_ble_eq_true rfl), (Nat.le_of_ble_eq_true rfl)⟩ dL_law_311 rfl (fun H locs G => ?_)
  exact lv_icmp_eq (tgt := 783) hx hb dL_law_314 (by decide) (fun _ => next υ H locs I2 G) (fun c1 => absurd rfl c1)
set_option maxRecDepth 100000 in
set_option maxHeartbeats 4000000 in
theorem lc_answer (C : Cx p s m #[.ref b0] meth c cL_law RL 4 (some .boolean) D cI cZ cO) (hXs : va_X b0 L xs s s.heap) (hbl : b0 < s.heap.size) {i : Nat} (hi : i + 4 ≤ L) (hL : L ≤ 2048) {σ : Sg} (I : Inv σ) {H : Heap} {locs : List Loc} (G : Gd s.heap.size D cI cZ cO σ s.heap H locs) {ls : Array Slot} (hl : lv_has ls 4 [(0, .ref b0), (1, .ref (s.heap.size + 0)), (2, .ref (s.heap.size + 132)), (3, .int (nI i))]) {Q : State → Prop} (next : ∀ (σ : Sg) (H : Heap) (locs : List Loc), Inv σ → Gd s.heap.size D cI cZ cO σ s.heap H locs → W p l e room_1 s m #[.ref b0] below meth c H locs 151 4204 Q (F0 m 783 ls [])) : W p l e room_1 s m #[.ref b0] below meth c H locs 151 4204 Q (F0 m 319 ls []) := by
  have hx := C.1
  have hb := C.2.1
  have hbA : ¬ (fun q : Nat => s.heap.size ≤ q) b0 := Nat.not_le.mpr hbl
  obtain ⟨v, τ, υ, e1, e2, I2⟩ := b_answer (xs (nI i + 1).toNatClampNeg) (xs (nI i + 2).toNatClampNeg) I
  refine lv_aload_n hx hb dL_law_319 rfl (lv_at hl 1 rfl) ?_
  refine lv_aload_n hx hb dL_law_320 rfl (lv_at hl 0 rfl) ?_
  refine lv_iload_n hx hb dL_law_321 rfl (lv_at hl 3 rfl) ?_
  refine lv_iconst (v := 1) hx hb dL_law_322 (by decide) ?_
  refine lv_iadd hx hb dL_law_323 ?_
  refine va_sld hx hb hXs hbl hbA G.2 (lw_in (j := 1) (by omega) hL) dL_law_324 ?_
  refine lv_aload_n hx hb dL_law_325 rfl (lv_at hl 0 rfl) ?_
  refine lv_iload_n hx hb dL_law_326 rfl (lv_at hl 3 rfl) ?_
  refine lv_iconst (v := 2) hx hb dL_law_327 (by decide) ?_
  refine lv_iadd hx hb dL_law_328 ?_
  refine va_sld hx hb hXs hbl hbA G.2 (lw_in (j := 2) (by omega) hL) dL_law_329 ?_
  refine callVI (ar := 2) (As := [.int (xs (nI i + 1).toNatClampNeg), .int (xs (nI i + 2).toNatClampNeg)]) (rest := []) C G hl.1 (ctX11_answer _ e1) ⟨wd_662, wd_663, wd_664, wd_69, wd_665⟩ (by decide +kernel) rfl ⟨rfl, rfl⟩ ⟨(Nat.le_of_ble_eq_true rfl), (Nat.le_of_ble_eq_true rfl)⟩ (by omega) (ent_11 _ cI cZ cO _ kd_0) rfl (Nat.le_of_ble_eq_true rfl) ⟨(Nat.le_of_ble_eq_true rfl), (Nat.le_of_ble_eq_true rfl)⟩ dL_law_330 rfl (fun H locs G => ?_)
  refine lv_aload_n hx hb dL_law_333 rfl (lv_at hl 2 rfl) ?_
  refine lv_aload_n hx hb dL_law_334 rfl (lv_at hl 0 rfl) ?_
  refine lv_iload_n hx hb dL_law_335 rfl (lv_at hl 3 rfl) ?_
  refine lv_iconst (v := 1) hx hb dL_law_336 (by decide) ?_
  refine lv_iadd hx hb dL_law_337 ?_
  refine va_sld hx hb hXs hbl hbA G.2 (lw_in (j := 1) (by omega) hL) dL_law_338 ?_
  refine lv_aload_n hx hb dL_law_339 rfl (lv_at hl 0 rfl) ?_
  refine lv_iload_n hx hb dL_law_340 rfl (lv_at hl 3 rfl) ?_
  refine lv_iconst (v := 2) hx hb dL_law_341 (by decide) ?_
  refine lv_iadd hx hb dL_law_342 ?_
  refine va_sld hx hb hXs hbl hbA G.2 (lw_in (j := 2) (by omega) hL) dL_law_343 ?_
  refine callVI (ar := 2) (As := [.int (xs (nI i + 1).toNatClampNeg), .int (xs (nI i + 2).toNatClampNeg)]) (rest := [.int v]) C G hl.1 (ctX12_answer _ e2) ⟨wd_1161, wd_1162, wd_1163, wd_81, wd_1164⟩ (by decide +kernel) rfl ⟨rfl, rfl⟩ ⟨(Nat.le_of_ble_eq_true rfl), (Nat.le_of_ble_eq_true rfl)⟩ (by omega) (ent_12 _ cI cZ cO _ kd_132) rfl (Nat.le_of_ble_eq_true rfl) ⟨(Nat.le_of_ble_eq_true rfl), (Nat.le_of_ble_eq_true rfl)⟩ dL_law_344 rfl (fun H locs G => ?_)
  exact lv_icmp_eq (tgt := 783) hx hb dL_law_347 (by decide) (fun _ => next υ H locs I2 G) (fun c1 => absurd rfl c1)
set_option maxRecDepth 100000 in
set_option maxHeartbeats 4000000 in
theorem lc_year (C : Cx p s m #[.ref b0] meth c cL_law RL 4 (some .boolean) D cI cZ cO) (hXs : va_X b0 L xs s s.heap) (hbl : b0 < s.heap.size) {i : Nat} (hi : i + 4 ≤ L) (hL : L ≤ 2048) {σ : Sg} (I : Inv σ) {H : Heap} {locs : List Loc} (G : Gd s.heap.size D cI cZ cO σ s.heap H locs) {ls : Array Slot} (hl : lv_has ls 4 [(0, .ref b0), (1, .ref (s.heap.size + 0)), (2, .ref (s.heap.size + 132)), (3, .int (nI i))]) {Q : State → Prop} (next : ∀ (σ : Sg) (H : Heap) (locs : List Loc), Inv σ → Gd s.heap.size D cI cZ cO σ s.heap H locs → W p l e room_1 s m #[.ref b0] below meth c H locs 151 4204 Q (F0 m 783 ls [])) : W p l e room_1 s m #[.ref b0] below meth c H locs 151 4204 Q (F0 m 352 ls []) := by
  have hx := C.1
  have hb := C.2.1
  have hbA : ¬ (fun q : Nat => s.heap.size ≤ q) b0 := Nat.not_le.mpr hbl
  obtain ⟨v, τ, υ, e1, e2, I2⟩ := b_year (xs (nI i + 1).toNatClampNeg) I
  refine lv_aload_n hx hb dL_law_352 rfl (lv_at hl 1 rfl) ?_
  refine lv_aload_n hx hb dL_law_353 rfl (lv_at hl 0 rfl) ?_
  refine lv_iload_n hx hb dL_law_354 rfl (lv_at hl 3 rfl) ?_
  refine lv_iconst (v := 1) hx hb dL_law_355 (by decide) ?_
  refine lv_iadd hx hb dL_law_356 ?_
  refine va_sld hx hb hXs hbl hbA G.2 (lw_in (j := 1) (by omega) hL) dL_law_357 ?_
  refine callVI (ar := 1) (As := [.int (xs (nI i + 1).toNatClampNeg)]) (rest := []) C G hl.1 (ctX11_year _ e1) ⟨wd_680, wd_681, wd_682, wd_69, wd_683⟩ (by decide +kernel) rfl ⟨rfl, rfl⟩ ⟨(Nat.le_of_ble_eq_true rfl), (Nat.le_of_ble_eq_true rfl)⟩ (by omega) (ent_11 _ cI cZ cO _ kd_0) rfl (Nat.le_of_ble_eq_true rfl) ⟨(Nat.le_of_ble_eq_true rfl), (Nat.le_of_ble_eq_true rfl)⟩ dL_law_358 rfl (fun H locs G => ?_)
  refine lv_aload_n hx hb dL_law_361 rfl (lv_at hl 2 rfl) ?_
  refine lv_aload_n hx hb dL_law_362 rfl (lv_at hl 0 rfl) ?_
  refine lv_iload_n hx hb dL_law_363 rfl (lv_at hl 3 rfl) ?_
  refine lv_iconst (v := 1) hx hb dL_law_364 (by decide) ?_
  refine lv_iadd hx hb dL_law_365 ?_
  refine va_sld hx hb hXs hbl hbA G.2 (lw_in (j := 1) (by omega) hL) dL_law_366 ?_
  refine callVI (ar := 1) (As := [.int (xs (nI i + 1).toNatClampNeg)]) (rest := [.int v]) C G hl.1 (ctX12_year _ e2) ⟨wd_1174, wd_1175, wd_1176, wd_81, wd_1177⟩ (by decide +kernel) rfl ⟨rfl, rfl⟩ ⟨(Nat.le_of_ble_eq_true rfl), (Nat.le_of_ble_eq_true rfl)⟩ (by omega) (ent_12 _ cI cZ cO _ kd_132) rfl (Nat.le_of_ble_eq_true rfl) ⟨(Nat.le_of_ble_eq_true rfl), (Nat.le_of_ble_eq_true rfl)⟩ dL_law_367 rfl (fun H locs G => ?_)
  exact lv_icmp_eq (tgt := 783) hx hb dL_law_370 (by decide) (fun _ => next υ H locs I2 G) (fun c1 => absurd rfl c1)
set_option maxRecDepth 100000 in
set_option maxHeartbeats 4000000 in
theorem lc_wit (C : Cx p s m #[.ref b0] meth c cL_law RL 4 (some .boolean) D cI cZ cO) (hXs : va_X b0 L xs s s.heap) (hbl : b0 < s.heap.size) {i : Nat} (hi : i + 4 ≤ L) (hL : L ≤ 2048) {σ : Sg} (I : Inv σ) {H : Heap} {locs : List Loc} (G : Gd s.heap.size D cI cZ cO σ s.heap H locs) {ls : Array Slot} (hl : lv_has ls 4 [(0, .ref b0), (1, .ref (s.heap.size + 0)), (2, .ref (s.heap.size + 132)), (3, .int (nI i))]) {Q : State → Prop} (next : ∀ (σ : Sg) (H : Heap) (locs : List Loc), Inv σ → Gd s.heap.size D cI cZ cO σ s.heap H locs → W p l e room_1 s m #[.ref b0] below meth c H locs 151 4204 Q (F0 m 783 ls [])) : W p l e room_1 s m #[.ref b0] below meth c H locs 151 4204 Q (F0 m 375 ls []) := by
  have hx := C.1
  have hb := C.2.1
  have hbA : ¬ (fun q : Nat => s.heap.size ≤ q) b0 := Nat.not_le.mpr hbl
  obtain ⟨v, τ, υ, e1, e2, I2⟩ := b_wit (xs (nI i + 1).toNatClampNeg) (xs (nI i + 2).toNatClampNeg) I
  refine lv_aload_n hx hb dL_law_375 rfl (lv_at hl 1 rfl) ?_
  refine lv_aload_n hx hb dL_law_376 rfl (lv_at hl 0 rfl) ?_
  refine lv_iload_n hx hb dL_law_377 rfl (lv_at hl 3 rfl) ?_
  refine lv_iconst (v := 1) hx hb dL_law_378 (by decide) ?_
  refine lv_iadd hx hb dL_law_379 ?_
  refine va_sld hx hb hXs hbl hbA G.2 (lw_in (j := 1) (by omega) hL) dL_law_380 ?_
  refine lv_aload_n hx hb dL_law_381 rfl (lv_at hl 0 rfl) ?_
  refine lv_iload_n hx hb dL_law_382 rfl (lv_at hl 3 rfl) ?_
  refine lv_iconst (v := 2) hx hb dL_law_383 (by decide) ?_
  refine lv_iadd hx hb dL_law_384 ?_
  refine va_sld hx hb hXs hbl hbA G.2 (lw_in (j := 2) (by omega) hL) dL_law_385 ?_
  refine callVI (ar := 2) (As := [.int (xs (nI i + 1).toNatClampNeg), .int (xs (nI i + 2).toNatClampNeg)]) (rest := []) C G hl.1 (ctX11_wit _ e1) ⟨wd_707, wd_708, wd_709, wd_69, wd_710⟩ (by decide +kernel) rfl ⟨rfl, rfl⟩ ⟨(Nat.le_of_ble_eq_true rfl), (Nat.le_of_ble_eq_true rfl)⟩ (by omega) (ent_11 _ cI cZ cO _ kd_0) rfl (Nat.le_of_ble_eq_true rfl) ⟨(Nat.le_of_ble_eq_true rfl), (Nat.le_of_ble_eq_true rfl)⟩ dL_law_386 rfl (fun H locs G => ?_)
  refine lv_aload_n hx hb dL_law_389 rfl (lv_at hl 2 rfl) ?_
  refine lv_aload_n hx hb dL_law_390 rfl (lv_at hl 0 rfl) ?_
  refine lv_iload_n hx hb dL_law_391 rfl (lv_at hl 3 rfl) ?_
  refine lv_iconst (v := 1) hx hb dL_law_392 (by decide) ?_
  refine lv_iadd hx hb dL_law_393 ?_
  refine va_sld hx hb hXs hbl hbA G.2 (lw_in (j := 1) (by omega) hL) dL_law_394 ?_
  refine lv_aload_n hx hb dL_law_395 rfl (lv_at hl 0 rfl) ?_
  refine lv_iload_n hx hb dL_law_396 rfl (lv_at hl 3 rfl) ?_
  refine lv_iconst (v := 2) hx hb dL_law_397 (by decide) ?_
  refine lv_iadd hx hb dL_law_398 ?_
  refine va_sld hx hb hXs hbl hbA G.2 (lw_in (j := 2) (by omega) hL) dL_law_399 ?_
  refine callVI (ar := 2) (As := [.int (xs (nI i + 1).toNatClampNeg), .int (xs (nI i + 2).toNatClampNeg)]) (rest := [.int v]) C G hl.1 (ctX12_wit _ e2) ⟨wd_1179, wd_1180, wd_1181, wd_81, wd_1182⟩ (by decide +kernel) rfl ⟨rfl, rfl⟩ ⟨(Nat.le_of_ble_eq_true rfl), (Nat.le_of_ble_eq_true rfl)⟩ (by omega) (ent_12 _ cI cZ cO _ kd_132) rfl (Nat.le_of_ble_eq_true rfl) ⟨(Nat.le_of_ble_eq_true rfl), (Nat.le_of_ble_eq_true rfl)⟩ dL_law_400 rfl (fun H locs G => ?_)
  exact lv_icmp_eq (tgt := 783) hx hb dL_law_403 (by decide) (fun _ => next υ H locs I2 G) (fun c1 => absurd rfl c1)
set_option maxRecDepth 100000 in
set_option maxHeartbeats 4000000 in
theorem lc_bear (C : Cx p s m #[.ref b0] meth c cL_law RL 4 (some .boolean) D cI cZ cO) (hXs : va_X b0 L xs s s.heap) (hbl : b0 < s.heap.size) {i : Nat} (hi : i + 4 ≤ L) (hL : L ≤ 2048) {σ : Sg} (I : Inv σ) {H : Heap} {locs : List Loc} (G : Gd s.heap.size D cI cZ cO σ s.heap H locs) {ls : Array Slot} (hl : lv_has ls 4 [(0, .ref b0), (1, .ref (s.heap.size + 0)), (2, .ref (s.heap.size + 132)), (3, .int (nI i))]) {Q : State → Prop} (next : ∀ (σ : Sg) (H : Heap) (locs : List Loc), Inv σ → Gd s.heap.size D cI cZ cO σ s.heap H locs → W p l e room_1 s m #[.ref b0] below meth c H locs 151 4204 Q (F0 m 783 ls [])) : W p l e room_1 s m #[.ref b0] below meth c H locs 151 4204 Q (F0 m 408 ls []) := by
  have hx := C.1
  have hb := C.2.1
  have hbA : ¬ (fun q : Nat => s.heap.size ≤ q) b0 := Nat.not_le.mpr hbl
  obtain ⟨v, τ, υ, e1, e2, I2⟩ := b_bear (xs (nI i + 1).toNatClampNeg) (xs (nI i + 2).toNatClampNeg) I
  refine lv_aload_n hx hb dL_law_408 rfl (lv_at hl 1 rfl) ?_
  refine lv_aload_n hx hb dL_law_409 rfl (lv_at hl 0 rfl) ?_
  refine lv_iload_n hx hb dL_law_410 rfl (lv_at hl 3 rfl) ?_
  refine lv_iconst (v := 1) hx hb dL_law_411 (by decide) ?_
  refine lv_iadd hx hb dL_law_412 ?_
  refine va_sld hx hb hXs hbl hbA G.2 (lw_in (j := 1) (by omega) hL) dL_law_413 ?_
  refine lv_aload_n hx hb dL_law_414 rfl (lv_at hl 0 rfl) ?_
  refine lv_iload_n hx hb dL_law_415 rfl (lv_at hl 3 rfl) ?_
  refine lv_iconst (v := 2) hx hb dL_law_416 (by decide) ?_
  refine lv_iadd hx hb dL_law_417 ?_
  refine va_sld hx hb hXs hbl hbA G.2 (lw_in (j := 2) (by omega) hL) dL_law_418 ?_
  refine callVI (ar := 2) (As := [.int (xs (nI i + 1).toNatClampNeg), .int (xs (nI i + 2).toNatClampNeg)]) (rest := []) C G hl.1 (ctX11_bear _ e1) ⟨wd_711, wd_712, wd_713, wd_69, wd_714⟩ (by decide +kernel) rfl ⟨rfl, rfl⟩ ⟨(Nat.le_of_ble_eq_true rfl), (Nat.le_of_ble_eq_true rfl)⟩ (by omega) (ent_11 _ cI cZ cO _ kd_0) rfl (Nat.le_of_ble_eq_true rfl) ⟨(Nat.le_of_ble_eq_true rfl), (Nat.le_of_ble_eq_true rfl)⟩ dL_law_419 rfl (fun H locs G => ?_)
  refine lv_aload_n hx hb dL_law_422 rfl (lv_at hl 2 rfl) ?_
  refine lv_aload_n hx hb dL_law_423 rfl (lv_at hl 0 rfl) ?_
  refine lv_iload_n hx hb dL_law_424 rfl (lv_at hl 3 rfl) ?_
  refine lv_iconst (v := 1) hx hb dL_law_425 (by decide) ?_
  refine lv_iadd hx hb dL_law_426 ?_
  refine va_sld hx hb hXs hbl hbA G.2 (lw_in (j := 1) (by omega) hL) dL_law_427 ?_
  refine lv_aload_n hx hb dL_law_428 rfl (lv_at hl 0 rfl) ?_
  refine lv_iload_n hx hb dL_law_429 rfl (lv_at hl 3 rfl) ?_
  refine lv_iconst (v := 2) hx hb dL_law_430 (by decide) ?_
  refine lv_iadd hx hb dL_law_431 ?_
  refine va_sld hx hb hXs hbl hbA G.2 (lw_in (j := 2) (by omega) hL) dL_law_432 ?_
  refine callVI (ar := 2) (As := [.int (xs (nI i + 1).toNatClampNeg), .int (xs (nI i + 2).toNatClampNeg)]) (rest := [.int v]) C G hl.1 (ctX12_bear _ e2) ⟨wd_1184, wd_1185, wd_1186, wd_81, wd_1187⟩ (by decide +kernel) rfl ⟨rfl, rfl⟩ ⟨(Nat.le_of_ble_eq_true rfl), (Nat.le_of_ble_eq_true rfl)⟩ (by omega) (ent_12 _ cI cZ cO _ kd_132) rfl (Nat.le_of_ble_eq_true rfl) ⟨(Nat.le_of_ble_eq_true rfl), (Nat.le_of_ble_eq_true rfl)⟩ dL_law_433 rfl (fun H locs G => ?_)
  exact lv_icmp_eq (tgt := 783) hx hb dL_law_436 (by decide) (fun _ => next υ H locs I2 G) (fun c1 => absurd rfl c1)
set_option maxRecDepth 100000 in
set_option maxHeartbeats 4000000 in
theorem lc_drift (C : Cx p s m #[.ref b0] meth c cL_law RL 4 (some .boolean) D cI cZ cO) (hXs : va_X b0 L xs s s.heap) (hbl : b0 < s.heap.size) {i : Nat} (hi : i + 4 ≤ L) (hL : L ≤ 2048) {σ : Sg} (I : Inv σ) {H : Heap} {locs : List Loc} (G : Gd s.heap.size D cI cZ cO σ s.heap H locs) {ls : Array Slot} (hl : lv_has ls 4 [(0, .ref b0), (1, .ref (s.heap.size + 0)), (2, .ref (s.heap.size + 132)), (3, .int (nI i))]) {Q : State → Prop} (next : ∀ (σ : Sg) (H : Heap) (locs : List Loc), Inv σ → Gd s.heap.size D cI cZ cO σ s.heap H locs → W p l e room_1 s m #[.ref b0] below meth c H locs 151 4204 Q (F0 m 783 ls [])) : W p l e room_1 s m #[.ref b0] below meth c H locs 151 4204 Q (F0 m 441 ls []) := by
  have hx := C.1
  have hb := C.2.1
  have hbA : ¬ (fun q : Nat => s.heap.size ≤ q) b0 := Nat.not_le.mpr hbl
  obtain ⟨v, τ, υ, e1, e2, I2⟩ := b_drift (xs (nI i + 1).toNatClampNeg) I
  refine lv_aload_n hx hb dL_law_441 rfl (lv_at hl 1 rfl) ?_
  refine lv_aload_n hx hb dL_law_442 rfl (lv_at hl 0 rfl) ?_
  refine lv_iload_n hx hb dL_law_443 rfl (lv_at hl 3 rfl) ?_
  refine lv_iconst (v := 1) hx hb dL_law_444 (by decide) ?_
  refine lv_iadd hx hb dL_law_445 ?_
  refine va_sld hx hb hXs hbl hbA G.2 (lw_in (j := 1) (by omega) hL) dL_law_446 ?_
  refine callVI (ar := 1) (As := [.int (xs (nI i + 1).toNatClampNeg)]) (rest := []) C G hl.1 (ctX11_drift _ e1) ⟨wd_715, wd_716, wd_717, wd_69, wd_718⟩ (by decide +kernel) rfl ⟨rfl, rfl⟩ ⟨(Nat.le_of_ble_eq_true rfl), (Nat.le_of_ble_eq_true rfl)⟩ (by omega) (ent_11 _ cI cZ cO _ kd_0) rfl (Nat.le_of_ble_eq_true rfl) ⟨(Nat.le_of_ble_eq_true rfl), (Nat.le_of_ble_eq_true rfl)⟩ dL_law_447 rfl (fun H locs G => ?_)
  refine lv_aload_n hx hb dL_law_450 rfl (lv_at hl 2 rfl) ?_
  refine lv_aload_n hx hb dL_law_451 rfl (lv_at hl 0 rfl) ?_
  refine lv_iload_n hx hb dL_law_452 rfl (lv_at hl 3 rfl) ?_
  refine lv_iconst (v := 1) hx hb dL_law_453 (by decide) ?_
  refine lv_iadd hx hb dL_law_454 ?_
  refine va_sld hx hb hXs hbl hbA G.2 (lw_in (j := 1) (by omega) hL) dL_law_455 ?_
  refine callVI (ar := 1) (As := [.int (xs (nI i + 1).toNatClampNeg)]) (rest := [.int v]) C G hl.1 (ctX12_drift _ e2) ⟨wd_1188, wd_1189, wd_1190, wd_81, wd_1191⟩ (by decide +kernel) rfl ⟨rfl, rfl⟩ ⟨(Nat.le_of_ble_eq_true rfl), (Nat.le_of_ble_eq_true rfl)⟩ (by omega) (ent_12 _ cI cZ cO _ kd_132) rfl (Nat.le_of_ble_eq_true rfl) ⟨(Nat.le_of_ble_eq_true rfl), (Nat.le_of_ble_eq_true rfl)⟩ dL_law_456 rfl (fun H locs G => ?_)
  exact lv_icmp_eq (tgt := 783) hx hb dL_law_459 (by decide) (fun _ => next υ H locs I2 G) (fun c1 => absurd rfl c1)
set_option maxRecDepth 100000 in
set_option maxHeartbeats 4000000 in
theorem lc_undo (C : Cx p s m #[.ref b0] meth c cL_law RL 4 (some .boolean) D cI cZ cO) (hXs : va_X b0 L xs s s.heap) (hbl : b0 < s.heap.size) {i : Nat} (hi : i + 4 ≤ L) (hL : L ≤ 2048) {σ : Sg} (I : Inv σ) {H : Heap} {locs : List Loc} (G : Gd s.heap.size D cI cZ cO σ s.heap H locs) {ls : Array Slot} (hl : lv_has ls 4 [(0, .ref b0), (1, .ref (s.heap.size + 0)), (2, .ref (s.heap.size + 132)), (3, .int (nI i))]) {Q : State → Prop} (next : ∀ (σ : Sg) (H : Heap) (locs : List Loc), Inv σ → Gd s.heap.size D cI cZ cO σ s.heap H locs → W p l e room_1 s m #[.ref b0] below meth c H locs 151 4204 Q (F0 m 783 ls [])) : W p l e room_1 s m #[.ref b0] below meth c H locs 151 4204 Q (F0 m 464 ls []) := by
  have hx := C.1
  have hb := C.2.1
  have hbA : ¬ (fun q : Nat => s.heap.size ≤ q) b0 := Nat.not_le.mpr hbl
  obtain ⟨v, τ, υ, e1, e2, I2⟩ := b_undo  I
  refine lv_aload_n hx hb dL_law_464 rfl (lv_at hl 1 rfl) ?_
  refine callVI (ar := 0) (As := []) (rest := []) C G hl.1 (ctX11_undo _ e1) ⟨wd_735, wd_736, wd_737, wd_69, wd_738⟩ (by decide +kernel) rfl ⟨rfl, rfl⟩ ⟨(Nat.le_of_ble_eq_true rfl), (Nat.le_of_ble_eq_true rfl)⟩ (by omega) (ent_11 _ cI cZ cO _ kd_0) rfl (Nat.le_of_ble_eq_true rfl) ⟨(Nat.le_of_ble_eq_true rfl), (Nat.le_of_ble_eq_true rfl)⟩ dL_law_465 rfl (fun H locs G => ?_)
  refine lv_aload_n hx hb dL_law_468 rfl (lv_at hl 2 rfl) ?_
  refine callVI (ar := 0) (As := []) (rest := [.int v]) C G hl.1 (ctX12_undo _ e2) ⟨wd_1204, wd_1205, wd_1206, wd_81, wd_1207⟩ (by decide +kernel) rfl ⟨rfl, rfl⟩ ⟨(Nat.le_of_ble_eq_true rfl), (Nat.le_of_ble_eq_true rfl)⟩ (by omega) (ent_12 _ cI cZ cO _ kd_132) rfl (Nat.le_of_ble_eq_true rfl) ⟨(Nat.le_of_ble_eq_true rfl), (Nat.le_of_ble_eq_true rfl)⟩ dL_law_469 rfl (fun H locs G => ?_)
  exact lv_icmp_eq (tgt := 783) hx hb dL_law_472 (by decide) (fun _ => next υ H locs I2 G) (fun c1 => absurd rfl c1)
set_option maxRecDepth 100000 in
set_option maxHeartbeats 4000000 in
theorem lc_down (C : Cx p s m #[.ref b0] meth c cL_law RL 4 (some .boolean) D cI cZ cO) (hXs : va_X b0 L xs s s.heap) (hbl : b0 < s.heap.size) {i : Nat} (hi : i + 4 ≤ L) (hL : L ≤ 2048) {σ : Sg} (I : Inv σ) {H : Heap} {locs : List Loc} (G : Gd s.heap.size D cI cZ cO σ s.heap H locs) {ls : Array Slot} (hl : lv_has ls 4 [(0, .ref b0), (1, .ref (s.heap.size + 0)), (2, .ref (s.heap.size + 132)), (3, .int (nI i))]) {Q : State → Prop} (next : ∀ (σ : Sg) (H : Heap) (locs : List Loc), Inv σ → Gd s.heap.size D cI cZ cO σ s.heap H locs → W p l e room_1 s m #[.ref b0] below meth c H locs 151 4204 Q (F0 m 783 ls [])) : W p l e room_1 s m #[.ref b0] below meth c H locs 151 4204 Q (F0 m 477 ls []) := by
  have hx := C.1
  have hb := C.2.1
  have hbA : ¬ (fun q : Nat => s.heap.size ≤ q) b0 := Nat.not_le.mpr hbl
  obtain ⟨v, τ, υ, e1, e2, I2⟩ := b_down (xs (nI i + 1).toNatClampNeg) (xs (nI i + 2).toNatClampNeg) (xs (nI i + 3).toNatClampNeg) I
  refine lv_aload_n hx hb dL_law_477 rfl (lv_at hl 1 rfl) ?_
  refine lv_aload_n hx hb dL_law_478 rfl (lv_at hl 0 rfl) ?_
  refine lv_iload_n hx hb dL_law_479 rfl (lv_at hl 3 rfl) ?_
  refine lv_iconst (v := 1) hx hb dL_law_480 (by decide) ?_
  refine lv_iadd hx hb dL_law_481 ?_
  refine va_sld hx hb hXs hbl hbA G.2 (lw_in (j := 1) (by omega) hL) dL_law_482 ?_
  refine lv_aload_n hx hb dL_law_483 rfl (lv_at hl 0 rfl) ?_
  refine lv_iload_n hx hb dL_law_484 rfl (lv_at hl 3 rfl) ?_
  refine lv_iconst (v := 2) hx hb dL_law_485 (by decide) ?_
  refine lv_iadd hx hb dL_law_486 ?_
  refine va_sld hx hb hXs hbl hbA G.2 (lw_in (j := 2) (by omega) hL) dL_law_487 ?_
  refine lv_aload_n hx hb dL_law_488 rfl (lv_at hl 0 rfl) ?_
  refine lv_iload_n hx hb dL_law_489 rfl (lv_at hl 3 rfl) ?_
  refine lv_iconst (v := 3) hx hb dL_law_490 (by decide) ?_
  refine lv_iadd hx hb dL_law_491 ?_
  refine va_sld hx hb hXs hbl hbA G.2 (lw_in (j := 3) (by omega) hL) dL_law_492 ?_
  refine callVI (ar := 3) (As := [.int (xs (nI i + 1).toNatClampNeg), .int (xs (nI i + 2).toNatClampNeg), .int (xs (nI i + 3).toNatClampNeg)]) (rest := []) C G hl.1 (ctX11_down _ e1) ⟨wd_743, wd_744, wd_745, wd_69, wd_746⟩ (by decide +kernel) rfl ⟨rfl, rfl⟩ ⟨(Nat.le_of_ble_eq_true rfl), (Nat.le_of_ble_eq_true rfl)⟩ (by omega) (ent_11 _ cI cZ cO _ kd_0) rfl (Nat.le_of_ble_eq_true rfl) ⟨(Nat.le_of_ble_eq_true rfl), (Nat.le_of_ble_eq_true rfl)⟩ dL_law_493 rfl (fun H locs G => ?_)
  refine lv_aload_n hx hb dL_law_496 rfl (lv_at hl 2 rfl) ?_
  refine lv_aload_n hx hb dL_law_497 rfl (lv_at hl 0 rfl) ?_
  refine lv_iload_n hx hb dL_law_498 rfl (lv_at hl 3 rfl) ?_
  refine lv_iconst (v := 1) hx hb dL_law_499 (by decide) ?_
  refine lv_iadd hx hb dL_law_500 ?_
  refine va_sld hx hb hXs hbl hbA G.2 (lw_in (j := 1) (by omega) hL) dL_law_501 ?_
  refine lv_aload_n hx hb dL_law_502 rfl (lv_at hl 0 rfl) ?_
  refine lv_iload_n hx hb dL_law_503 rfl (lv_at hl 3 rfl) ?_
  refine lv_iconst (v := 2) hx hb dL_law_504 (by decide) ?_
  refine lv_iadd hx hb dL_law_505 ?_
  refine va_sld hx hb hXs hbl hbA G.2 (lw_in (j := 2) (by omega) hL) dL_law_506 ?_
  refine lv_aload_n hx hb dL_law_507 rfl (lv_at hl 0 rfl) ?_
  refine lv_iload_n hx hb dL_law_508 rfl (lv_at hl 3 rfl) ?_
  refine lv_iconst (v := 3) hx hb dL_law_509 (by decide) ?_
  refine lv_iadd hx hb dL_law_510 ?_
  refine va_sld hx hb hXs hbl hbA G.2 (lw_in (j := 3) (by omega) hL) dL_law_511 ?_
  refine callVI (ar := 3) (As := [.int (xs (nI i + 1).toNatClampNeg), .int (xs (nI i + 2).toNatClampNeg), .int (xs (nI i + 3).toNatClampNeg)]) (rest := [.int v]) C G hl.1 (ctX12_down _ e2) ⟨wd_1208, wd_1209, wd_1210, wd_81, wd_1211⟩ (by decide +kernel) rfl ⟨rfl, rfl⟩ ⟨(Nat.le_of_ble_eq_true rfl), (Nat.le_of_ble_eq_true rfl)⟩ (by omega) (ent_12 _ cI cZ cO _ kd_132) rfl (Nat.le_of_ble_eq_true rfl) ⟨(Nat.le_of_ble_eq_true rfl), (Nat.le_of_ble_eq_true rfl)⟩ dL_law_512 rfl (fun H locs G => ?_)
  exact lv_icmp_eq (tgt := 783) hx hb dL_law_515 (by decide) (fun _ => next υ H locs I2 G) (fun c1 => absurd rfl c1)
set_option maxRecDepth 100000 in
set_option maxHeartbeats 4000000 in
theorem lc_best (C : Cx p s m #[.ref b0] meth c cL_law RL 4 (some .boolean) D cI cZ cO) (hXs : va_X b0 L xs s s.heap) (hbl : b0 < s.heap.size) {i : Nat} (hi : i + 4 ≤ L) (hL : L ≤ 2048) {σ : Sg} (I : Inv σ) {H : Heap} {locs : List Loc} (G : Gd s.heap.size D cI cZ cO σ s.heap H locs) {ls : Array Slot} (hl : lv_has ls 4 [(0, .ref b0), (1, .ref (s.heap.size + 0)), (2, .ref (s.heap.size + 132)), (3, .int (nI i))]) {Q : State → Prop} (next : ∀ (σ : Sg) (H : Heap) (locs : List Loc), Inv σ → Gd s.heap.size D cI cZ cO σ s.heap H locs → W p l e room_1 s m #[.ref b0] below meth c H locs 151 4204 Q (F0 m 783 ls [])) : W p l e room_1 s m #[.ref b0] below meth c H locs 151 4204 Q (F0 m 520 ls []) := by
  have hx := C.1
  have hb := C.2.1
  have hbA : ¬ (fun q : Nat => s.heap.size ≤ q) b0 := Nat.not_le.mpr hbl
  obtain ⟨v, τ, υ, e1, e2, I2⟩ := b_best (xs (nI i + 1).toNatClampNeg) I
  refine lv_aload_n hx hb dL_law_520 rfl (lv_at hl 1 rfl) ?_
  refine lv_aload_n hx hb dL_law_521 rfl (lv_at hl 0 rfl) ?_
  refine lv_iload_n hx hb dL_law_522 rfl (lv_at hl 3 rfl) ?_
  refine lv_iconst (v := 1) hx hb dL_law_523 (by decide) ?_
  refine lv_iadd hx hb dL_law_524 ?_
  refine va_sld hx hb hXs hbl hbA G.2 (lw_in (j := 1) (by omega) hL) dL_law_525 ?_
  refine callVI (ar := 1) (As := [.int (xs (nI i + 1).toNatClampNeg)]) (rest := []) C G hl.1 (ctX11_best _ e1) ⟨wd_748, wd_749, wd_750, wd_69, wd_751⟩ (by decide +kernel) rfl ⟨rfl, rfl⟩ ⟨(Nat.le_of_ble_eq_true rfl), (Nat.le_of_ble_eq_true rfl)⟩ (by omega) (ent_11 _ cI cZ cO _ kd_0) rfl (Nat.le_of_ble_eq_true rfl) ⟨(Nat.le_of_ble_eq_true rfl), (Nat.le_of_ble_eq_true rfl)⟩ dL_law_526 rfl (fun H locs G => ?_)
  refine lv_aload_n hx hb dL_law_529 rfl (lv_at hl 2 rfl) ?_
  refine lv_aload_n hx hb dL_law_530 rfl (lv_at hl 0 rfl) ?_
  refine lv_iload_n hx hb dL_law_531 rfl (lv_at hl 3 rfl) ?_
  refine lv_iconst (v := 1) hx hb dL_law_532 (by decide) ?_
  refine lv_iadd hx hb dL_law_533 ?_
  refine va_sld hx hb hXs hbl hbA G.2 (lw_in (j := 1) (by omega) hL) dL_law_534 ?_
  refine callVI (ar := 1) (As := [.int (xs (nI i + 1).toNatClampNeg)]) (rest := [.int v]) C G hl.1 (ctX12_best _ e2) ⟨wd_1212, wd_1213, wd_1214, wd_81, wd_1215⟩ (by decide +kernel) rfl ⟨rfl, rfl⟩ ⟨(Nat.le_of_ble_eq_true rfl), (Nat.le_of_ble_eq_true rfl)⟩ (by omega) (ent_12 _ cI cZ cO _ kd_132) rfl (Nat.le_of_ble_eq_true rfl) ⟨(Nat.le_of_ble_eq_true rfl), (Nat.le_of_ble_eq_true rfl)⟩ dL_law_535 rfl (fun H locs G => ?_)
  exact lv_icmp_eq (tgt := 783) hx hb dL_law_538 (by decide) (fun _ => next υ H locs I2 G) (fun c1 => absurd rfl c1)
set_option maxRecDepth 100000 in
set_option maxHeartbeats 4000000 in
theorem lc_match (C : Cx p s m #[.ref b0] meth c cL_law RL 4 (some .boolean) D cI cZ cO) (hXs : va_X b0 L xs s s.heap) (hbl : b0 < s.heap.size) {i : Nat} (hi : i + 4 ≤ L) (hL : L ≤ 2048) {σ : Sg} (I : Inv σ) {H : Heap} {locs : List Loc} (G : Gd s.heap.size D cI cZ cO σ s.heap H locs) {ls : Array Slot} (hl : lv_has ls 4 [(0, .ref b0), (1, .ref (s.heap.size + 0)), (2, .ref (s.heap.size + 132)), (3, .int (nI i))]) {Q : State → Prop} (next : ∀ (σ : Sg) (H : Heap) (locs : List Loc), Inv σ → Gd s.heap.size D cI cZ cO σ s.heap H locs → W p l e room_1 s m #[.ref b0] below meth c H locs 151 4204 Q (F0 m 783 ls [])) : W p l e room_1 s m #[.ref b0] below meth c H locs 151 4204 Q (F0 m 543 ls []) := by
  have hx := C.1
  have hb := C.2.1
  have hbA : ¬ (fun q : Nat => s.heap.size ≤ q) b0 := Nat.not_le.mpr hbl
  obtain ⟨v, τ, υ, e1, e2, I2⟩ := b_match (xs (nI i + 1).toNatClampNeg) I
  refine lv_aload_n hx hb dL_law_543 rfl (lv_at hl 1 rfl) ?_
  refine lv_aload_n hx hb dL_law_544 rfl (lv_at hl 0 rfl) ?_
  refine lv_iload_n hx hb dL_law_545 rfl (lv_at hl 3 rfl) ?_
  refine lv_iconst (v := 1) hx hb dL_law_546 (by decide) ?_
  refine lv_iadd hx hb dL_law_547 ?_
  refine va_sld hx hb hXs hbl hbA G.2 (lw_in (j := 1) (by omega) hL) dL_law_548 ?_
  refine callVI (ar := 1) (As := [.int (xs (nI i + 1).toNatClampNeg)]) (rest := []) C G hl.1 (ctX11_match _ e1) ⟨wd_756, wd_757, wd_758, wd_69, wd_759⟩ (by decide +kernel) rfl ⟨rfl, rfl⟩ ⟨(Nat.le_of_ble_eq_true rfl), (Nat.le_of_ble_eq_true rfl)⟩ (by omega) (ent_11 _ cI cZ cO _ kd_0) rfl (Nat.le_of_ble_eq_true rfl) ⟨(Nat.le_of_ble_eq_true rfl), (Nat.le_of_ble_eq_true rfl)⟩ dL_law_549 rfl (fun H locs G => ?_)
  refine lv_aload_n hx hb dL_law_552 rfl (lv_at hl 2 rfl) ?_
  refine lv_aload_n hx hb dL_law_553 rfl (lv_at hl 0 rfl) ?_
  refine lv_iload_n hx hb dL_law_554 rfl (lv_at hl 3 rfl) ?_
  refine lv_iconst (v := 1) hx hb dL_law_555 (by decide) ?_
  refine lv_iadd hx hb dL_law_556 ?_
  refine va_sld hx hb hXs hbl hbA G.2 (lw_in (j := 1) (by omega) hL) dL_law_557 ?_
  refine callVI (ar := 1) (As := [.int (xs (nI i + 1).toNatClampNeg)]) (rest := [.int v]) C G hl.1 (ctX12_match _ e2) ⟨wd_1217, wd_1218, wd_1219, wd_81, wd_1220⟩ (by decide +kernel) rfl ⟨rfl, rfl⟩ ⟨(Nat.le_of_ble_eq_true rfl), (Nat.le_of_ble_eq_true rfl)⟩ (by omega) (ent_12 _ cI cZ cO _ kd_132) rfl (Nat.le_of_ble_eq_true rfl) ⟨(Nat.le_of_ble_eq_true rfl), (Nat.le_of_ble_eq_true rfl)⟩ dL_law_558 rfl (fun H locs G => ?_)
  exact lv_icmp_eq (tgt := 783) hx hb dL_law_561 (by decide) (fun _ => next υ H locs I2 G) (fun c1 => absurd rfl c1)
set_option maxRecDepth 100000 in
set_option maxHeartbeats 4000000 in
theorem lc_shares (C : Cx p s m #[.ref b0] meth c cL_law RL 4 (some .boolean) D cI cZ cO) (hXs : va_X b0 L xs s s.heap) (hbl : b0 < s.heap.size) {i : Nat} (hi : i + 4 ≤ L) (hL : L ≤ 2048) {σ : Sg} (I : Inv σ) {H : Heap} {locs : List Loc} (G : Gd s.heap.size D cI cZ cO σ s.heap H locs) {ls : Array Slot} (hl : lv_has ls 4 [(0, .ref b0), (1, .ref (s.heap.size + 0)), (2, .ref (s.heap.size + 132)), (3, .int (nI i))]) {Q : State → Prop} (next : ∀ (σ : Sg) (H : Heap) (locs : List Loc), Inv σ → Gd s.heap.size D cI cZ cO σ s.heap H locs → W p l e room_1 s m #[.ref b0] below meth c H locs 151 4204 Q (F0 m 783 ls [])) : W p l e room_1 s m #[.ref b0] below meth c H locs 151 4204 Q (F0 m 566 ls []) := by
  have hx := C.1
  have hb := C.2.1
  have hbA : ¬ (fun q : Nat => s.heap.size ≤ q) b0 := Nat.not_le.mpr hbl
  obtain ⟨v, τ, υ, e1, e2, I2⟩ := b_shares (xs (nI i + 1).toNatClampNeg) (xs (nI i + 2).toNatClampNeg) I
  refine lv_aload_n hx hb dL_law_566 rfl (lv_at hl 1 rfl) ?_
  refine lv_aload_n hx hb dL_law_567 rfl (lv_at hl 0 rfl) ?_
  refine lv_iload_n hx hb dL_law_568 rfl (lv_at hl 3 rfl) ?_
  refine lv_iconst (v := 1) hx hb dL_law_569 (by decide) ?_
  refine lv_iadd hx hb dL_law_570 ?_
  refine va_sld hx hb hXs hbl hbA G.2 (lw_in (j := 1) (by omega) hL) dL_law_571 ?_
  refine lv_aload_n hx hb dL_law_572 rfl (lv_at hl 0 rfl) ?_
  refine lv_iload_n hx hb dL_law_573 rfl (lv_at hl 3 rfl) ?_
  refine lv_iconst (v := 2) hx hb dL_law_574 (by decide) ?_
  refine lv_iadd hx hb dL_law_575 ?_
  refine va_sld hx hb hXs hbl hbA G.2 (lw_in (j := 2) (by omega) hL) dL_law_576 ?_
  refine callVI (ar := 2) (As := [.int (xs (nI i + 1).toNatClampNeg), .int (xs (nI i + 2).toNatClampNeg)]) (rest := []) C G hl.1 (ctX11_shares _ e1) ⟨wd_795, wd_796, wd_797, wd_69, wd_798⟩ (by decide +kernel) rfl ⟨rfl, rfl⟩ ⟨(Nat.le_of_ble_eq_true rfl), (Nat.le_of_ble_eq_true rfl)⟩ (by omega) (ent_11 _ cI cZ cO _ kd_0) rfl (Nat.le_of_ble_eq_true rfl) ⟨(Nat.le_of_ble_eq_true rfl), (Nat.le_of_ble_eq_true rfl)⟩ dL_law_577 rfl (fun H locs G => ?_)
  refine lv_aload_n hx hb dL_law_580 rfl (lv_at hl 2 rfl) ?_
  refine lv_aload_n hx hb dL_law_581 rfl (lv_at hl 0 rfl) ?_
  refine lv_iload_n hx hb dL_law_582 rfl (lv_at hl 3 rfl) ?_
  refine lv_iconst (v := 1) hx hb dL_law_583 (by decide) ?_
  refine lv_iadd hx hb dL_law_584 ?_
  refine va_sld hx hb hXs hbl hbA G.2 (lw_in (j := 1) (by omega) hL) dL_law_585 ?_
  refine lv_aload_n hx hb dL_law_586 rfl (lv_at hl 0 rfl) ?_
  refine lv_iload_n hx hb dL_law_587 rfl (lv_at hl 3 rfl) ?_
  refine lv_iconst (v := 2) hx hb dL_law_588 (by decide) ?_
  refine lv_iadd hx hb dL_law_589 ?_
  refine va_sld hx hb hXs hbl hbA G.2 (lw_in (j := 2) (by omega) hL) dL_law_590 ?_
  refine callVI (ar := 2) (As := [.int (xs (nI i + 1).toNatClampNeg), .int (xs (nI i + 2).toNatClampNeg)]) (rest := [.int v]) C G hl.1 (ctX12_shares _ e2) ⟨wd_1233, wd_1234, wd_1235, wd_81, wd_1236⟩ (by decide +kernel) rfl ⟨rfl, rfl⟩ ⟨(Nat.le_of_ble_eq_true rfl), (Nat.le_of_ble_eq_true rfl)⟩ (by omega) (ent_12 _ cI cZ cO _ kd_132) rfl (Nat.le_of_ble_eq_true rfl) ⟨(Nat.le_of_ble_eq_true rfl), (Nat.le_of_ble_eq_true rfl)⟩ dL_law_591 rfl (fun H locs G => ?_)
  exact lv_icmp_eq (tgt := 783) hx hb dL_law_594 (by decide) (fun _ => next υ H locs I2 G) (fun c1 => absurd rfl c1)
set_option maxRecDepth 100000 in
set_option maxHeartbeats 4000000 in
theorem lc_dry (C : Cx p s m #[.ref b0] meth c cL_law RL 4 (some .boolean) D cI cZ cO) (hXs : va_X b0 L xs s s.heap) (hbl : b0 < s.heap.size) {i : Nat} (hi : i + 4 ≤ L) (hL : L ≤ 2048) {σ : Sg} (I : Inv σ) {H : Heap} {locs : List Loc} (G : Gd s.heap.size D cI cZ cO σ s.heap H locs) {ls : Array Slot} (hl : lv_has ls 4 [(0, .ref b0), (1, .ref (s.heap.size + 0)), (2, .ref (s.heap.size + 132)), (3, .int (nI i))]) {Q : State → Prop} (next : ∀ (σ : Sg) (H : Heap) (locs : List Loc), Inv σ → Gd s.heap.size D cI cZ cO σ s.heap H locs → W p l e room_1 s m #[.ref b0] below meth c H locs 151 4204 Q (F0 m 783 ls [])) : W p l e room_1 s m #[.ref b0] below meth c H locs 151 4204 Q (F0 m 599 ls []) := by
  have hx := C.1
  have hb := C.2.1
  have hbA : ¬ (fun q : Nat => s.heap.size ≤ q) b0 := Nat.not_le.mpr hbl
  obtain ⟨v, τ, υ, e1, e2, I2⟩ := b_dry (xs (nI i + 1).toNatClampNeg) (xs (nI i + 2).toNatClampNeg) I
  refine lv_aload_n hx hb dL_law_599 rfl (lv_at hl 1 rfl) ?_
  refine lv_aload_n hx hb dL_law_600 rfl (lv_at hl 0 rfl) ?_
  refine lv_iload_n hx hb dL_law_601 rfl (lv_at hl 3 rfl) ?_
  refine lv_iconst (v := 1) hx hb dL_law_602 (by decide) ?_
  refine lv_iadd hx hb dL_law_603 ?_
  refine va_sld hx hb hXs hbl hbA G.2 (lw_in (j := 1) (by omega) hL) dL_law_604 ?_
  refine lv_aload_n hx hb dL_law_605 rfl (lv_at hl 0 rfl) ?_
  refine lv_iload_n hx hb dL_law_606 rfl (lv_at hl 3 rfl) ?_
  refine lv_iconst (v := 2) hx hb dL_law_607 (by decide) ?_
  refine lv_iadd hx hb dL_law_608 ?_
  refine va_sld hx hb hXs hbl hbA G.2 (lw_in (j := 2) (by omega) hL) dL_law_609 ?_
  refine callVI (ar := 2) (As := [.int (xs (nI i + 1).toNatClampNeg), .int (xs (nI i + 2).toNatClampNeg)]) (rest := []) C G hl.1 (ctX11_dry _ e1) ⟨wd_815, wd_816, wd_817, wd_69, wd_818⟩ (by decide +kernel) rfl ⟨rfl, rfl⟩ ⟨(Nat.le_of_ble_eq_true rfl), (Nat.le_of_ble_eq_true rfl)⟩ (by omega) (ent_11 _ cI cZ cO _ kd_0) rfl (Nat.le_of_ble_eq_true rfl) ⟨(Nat.le_of_ble_eq_true rfl), (Nat.le_of_ble_eq_true rfl)⟩ dL_law_610 rfl (fun H locs G => ?_)
  refine lv_aload_n hx hb dL_law_613 rfl (lv_at hl 2 rfl) ?_
  refine lv_aload_n hx hb dL_law_614 rfl (lv_at hl 0 rfl) ?_
  refine lv_iload_n hx hb dL_law_615 rfl (lv_at hl 3 rfl) ?_
  refine lv_iconst (v := 1) hx hb dL_law_616 (by decide) ?_
  refine lv_iadd hx hb dL_law_617 ?_
  refine va_sld hx hb hXs hbl hbA G.2 (lw_in (j := 1) (by omega) hL) dL_law_618 ?_
  refine lv_aload_n hx hb dL_law_619 rfl (lv_at hl 0 rfl) ?_
  refine lv_iload_n hx hb dL_law_620 rfl (lv_at hl 3 rfl) ?_
  refine lv_iconst (v := 2) hx hb dL_law_621 (by decide) ?_
  refine lv_iadd hx hb dL_law_622 ?_
  refine va_sld hx hb hXs hbl hbA G.2 (lw_in (j := 2) (by omega) hL) dL_law_623 ?_
  refine callVI (ar := 2) (As := [.int (xs (nI i + 1).toNatClampNeg), .int (xs (nI i + 2).toNatClampNeg)]) (rest := [.int v]) C G hl.1 (ctX12_dry _ e2) ⟨wd_1246, wd_1247, wd_1248, wd_81, wd_1249⟩ (by decide +kernel) rfl ⟨rfl, rfl⟩ ⟨(Nat.le_of_ble_eq_true rfl), (Nat.le_of_ble_eq_true rfl)⟩ (by omega) (ent_12 _ cI cZ cO _ kd_132) rfl (Nat.le_of_ble_eq_true rfl) ⟨(Nat.le_of_ble_eq_true rfl), (Nat.le_of_ble_eq_true rfl)⟩ dL_law_624 rfl (fun H locs G => ?_)
  exact lv_icmp_eq (tgt := 783) hx hb dL_law_627 (by decide) (fun _ => next υ H locs I2 G) (fun c1 => absurd rfl c1)
set_option maxRecDepth 100000 in
set_option maxHeartbeats 4000000 in
theorem lc_returned (C : Cx p s m #[.ref b0] meth c cL_law RL 4 (some .boolean) D cI cZ cO) (hXs : va_X b0 L xs s s.heap) (hbl : b0 < s.heap.size) {i : Nat} (hi : i + 4 ≤ L) (hL : L ≤ 2048) {σ : Sg} (I : Inv σ) {H : Heap} {locs : List Loc} (G : Gd s.heap.size D cI cZ cO σ s.heap H locs) {ls : Array Slot} (hl : lv_has ls 4 [(0, .ref b0), (1, .ref (s.heap.size + 0)), (2, .ref (s.heap.size + 132)), (3, .int (nI i))]) {Q : State → Prop} (next : ∀ (σ : Sg) (H : Heap) (locs : List Loc), Inv σ → Gd s.heap.size D cI cZ cO σ s.heap H locs → W p l e room_1 s m #[.ref b0] below meth c H locs 151 4204 Q (F0 m 783 ls [])) : W p l e room_1 s m #[.ref b0] below meth c H locs 151 4204 Q (F0 m 632 ls []) := by
  have hx := C.1
  have hb := C.2.1
  have hbA : ¬ (fun q : Nat => s.heap.size ≤ q) b0 := Nat.not_le.mpr hbl
  obtain ⟨v, τ, υ, e1, e2, I2⟩ := b_returned (xs (nI i + 1).toNatClampNeg) I
  refine lv_aload_n hx hb dL_law_632 rfl (lv_at hl 1 rfl) ?_
  refine lv_aload_n hx hb dL_law_633 rfl (lv_at hl 0 rfl) ?_
  refine lv_iload_n hx hb dL_law_634 rfl (lv_at hl 3 rfl) ?_
  refine lv_iconst (v := 1) hx hb dL_law_635 (by decide) ?_
  refine lv_iadd hx hb dL_law_636 ?_
  refine va_sld hx hb hXs hbl hbA G.2 (lw_in (j := 1) (by omega) hL) dL_law_637 ?_
  refine callVI (ar := 1) (As := [.int (xs (nI i + 1).toNatClampNeg)]) (rest := []) C G hl.1 (ctX11_returned _ e1) ⟨wd_821, wd_822, wd_823, wd_69, wd_824⟩ (by decide +kernel) rfl ⟨rfl, rfl⟩ ⟨(Nat.le_of_ble_eq_true rfl), (Nat.le_of_ble_eq_true rfl)⟩ (by omega) (ent_11 _ cI cZ cO _ kd_0) rfl (Nat.le_of_ble_eq_true rfl) ⟨(Nat.le_of_ble_eq_true rfl), (Nat.le_of_ble_eq_true rfl)⟩ dL_law_638 rfl (fun H locs G => ?_)
  refine lv_aload_n hx hb dL_law_641 rfl (lv_at hl 2 rfl) ?_
  refine lv_aload_n hx hb dL_law_642 rfl (lv_at hl 0 rfl) ?_
  refine lv_iload_n hx hb dL_law_643 rfl (lv_at hl 3 rfl) ?_
  refine lv_iconst (v := 1) hx hb dL_law_644 (by decide) ?_
  refine lv_iadd hx hb dL_law_645 ?_
  refine va_sld hx hb hXs hbl hbA G.2 (lw_in (j := 1) (by omega) hL) dL_law_646 ?_
  refine callVI (ar := 1) (As := [.int (xs (nI i + 1).toNatClampNeg)]) (rest := [.int v]) C G hl.1 (ctX12_returned _ e2) ⟨wd_1252, wd_1253, wd_1254, wd_81, wd_1255⟩ (by decide +kernel) rfl ⟨rfl, rfl⟩ ⟨(Nat.le_of_ble_eq_true rfl), (Nat.le_of_ble_eq_true rfl)⟩ (by omega) (ent_12 _ cI cZ cO _ kd_132) rfl (Nat.le_of_ble_eq_true rfl) ⟨(Nat.le_of_ble_eq_true rfl), (Nat.le_of_ble_eq_true rfl)⟩ dL_law_647 rfl (fun H locs G => ?_)
  exact lv_icmp_eq (tgt := 783) hx hb dL_law_650 (by decide) (fun _ => next υ H locs I2 G) (fun c1 => absurd rfl c1)
set_option maxRecDepth 100000 in
set_option maxHeartbeats 4000000 in
theorem lc_write (C : Cx p s m #[.ref b0] meth c cL_law RL 4 (some .boolean) D cI cZ cO) (hXs : va_X b0 L xs s s.heap) (hbl : b0 < s.heap.size) {i : Nat} (hi : i + 4 ≤ L) (hL : L ≤ 2048) {σ : Sg} (I : Inv σ) {H : Heap} {locs : List Loc} (G : Gd s.heap.size D cI cZ cO σ s.heap H locs) {ls : Array Slot} (hl : lv_has ls 4 [(0, .ref b0), (1, .ref (s.heap.size + 0)), (2, .ref (s.heap.size + 132)), (3, .int (nI i))]) {Q : State → Prop} (next : ∀ (σ : Sg) (H : Heap) (locs : List Loc), Inv σ → Gd s.heap.size D cI cZ cO σ s.heap H locs → W p l e room_1 s m #[.ref b0] below meth c H locs 151 4204 Q (F0 m 783 ls [])) : W p l e room_1 s m #[.ref b0] below meth c H locs 151 4204 Q (F0 m 655 ls []) := by
  have hx := C.1
  have hb := C.2.1
  have hbA : ¬ (fun q : Nat => s.heap.size ≤ q) b0 := Nat.not_le.mpr hbl
  obtain ⟨v, τ, υ, e1, e2, I2⟩ := b_write (xs (nI i + 1).toNatClampNeg) (xs (nI i + 2).toNatClampNeg) I
  refine lv_aload_n hx hb dL_law_655 rfl (lv_at hl 1 rfl) ?_
  refine lv_aload_n hx hb dL_law_656 rfl (lv_at hl 0 rfl) ?_
  refine lv_iload_n hx hb dL_law_657 rfl (lv_at hl 3 rfl) ?_
  refine lv_iconst (v := 1) hx hb dL_law_658 (by decide) ?_
  refine lv_iadd hx hb dL_law_659 ?_
  refine va_sld hx hb hXs hbl hbA G.2 (lw_in (j := 1) (by omega) hL) dL_law_660 ?_
  refine lv_aload_n hx hb dL_law_661 rfl (lv_at hl 0 rfl) ?_
  refine lv_iload_n hx hb dL_law_662 rfl (lv_at hl 3 rfl) ?_
  refine lv_iconst (v := 2) hx hb dL_law_663 (by decide) ?_
  refine lv_iadd hx hb dL_law_664 ?_
  refine va_sld hx hb hXs hbl hbA G.2 (lw_in (j := 2) (by omega) hL) dL_law_665 ?_
  refine callVI (ar := 2) (As := [.int (xs (nI i + 1).toNatClampNeg), .int (xs (nI i + 2).toNatClampNeg)]) (rest := []) C G hl.1 (ctX11_write _ e1) ⟨wd_830, wd_831, wd_832, wd_69, wd_833⟩ (by decide +kernel) rfl ⟨rfl, rfl⟩ ⟨(Nat.le_of_ble_eq_true rfl), (Nat.le_of_ble_eq_true rfl)⟩ (by omega) (ent_11 _ cI cZ cO _ kd_0) rfl (Nat.le_of_ble_eq_true rfl) ⟨(Nat.le_of_ble_eq_true rfl), (Nat.le_of_ble_eq_true rfl)⟩ dL_law_666 rfl (fun H locs G => ?_)
  refine lv_aload_n hx hb dL_law_669 rfl (lv_at hl 2 rfl) ?_
  refine lv_aload_n hx hb dL_law_670 rfl (lv_at hl 0 rfl) ?_
  refine lv_iload_n hx hb dL_law_671 rfl (lv_at hl 3 rfl) ?_
  refine lv_iconst (v := 1) hx hb dL_law_672 (by decide) ?_
  refine lv_iadd hx hb dL_law_673 ?_
  refine va_sld hx hb hXs hbl hbA G.2 (lw_in (j := 1) (by omega) hL) dL_law_674 ?_
  refine lv_aload_n hx hb dL_law_675 rfl (lv_at hl 0 rfl) ?_
  refine lv_iload_n hx hb dL_law_676 rfl (lv_at hl 3 rfl) ?_
  refine lv_iconst (v := 2) hx hb dL_law_677 (by decide) ?_
  refine lv_iadd hx hb dL_law_678 ?_
  refine va_sld hx hb hXs hbl hbA G.2 (lw_in (j := 2) (by omega) hL) dL_law_679 ?_
  refine callVI (ar := 2) (As := [.int (xs (nI i + 1).toNatClampNeg), .int (xs (nI i + 2).toNatClampNeg)]) (rest := [.int v]) C G hl.1 (ctX12_write _ e2) ⟨wd_1256, wd_1257, wd_1258, wd_81, wd_1259⟩ (by decide +kernel) rfl ⟨rfl, rfl⟩ ⟨(Nat.le_of_ble_eq_true rfl), (Nat.le_of_ble_eq_true rfl)⟩ (by omega) (ent_12 _ cI cZ cO _ kd_132) rfl (Nat.le_of_ble_eq_true rfl) ⟨(Nat.le_of_ble_eq_true rfl), (Nat.le_of_ble_eq_true rfl)⟩ dL_law_680 rfl (fun H locs G => ?_)
  exact lv_icmp_eq (tgt := 783) hx hb dL_law_683 (by decide) (fun _ => next υ H locs I2 G) (fun c1 => absurd rfl c1)
set_option maxRecDepth 100000 in
set_option maxHeartbeats 4000000 in
theorem lc_tear (C : Cx p s m #[.ref b0] meth c cL_law RL 4 (some .boolean) D cI cZ cO) (hXs : va_X b0 L xs s s.heap) (hbl : b0 < s.heap.size) {i : Nat} (hi : i + 4 ≤ L) (hL : L ≤ 2048) {σ : Sg} (I : Inv σ) {H : Heap} {locs : List Loc} (G : Gd s.heap.size D cI cZ cO σ s.heap H locs) {ls : Array Slot} (hl : lv_has ls 4 [(0, .ref b0), (1, .ref (s.heap.size + 0)), (2, .ref (s.heap.size + 132)), (3, .int (nI i))]) {Q : State → Prop} (next : ∀ (σ : Sg) (H : Heap) (locs : List Loc), Inv σ → Gd s.heap.size D cI cZ cO σ s.heap H locs → W p l e room_1 s m #[.ref b0] below meth c H locs 151 4204 Q (F0 m 783 ls [])) : W p l e room_1 s m #[.ref b0] below meth c H locs 151 4204 Q (F0 m 688 ls []) := by
  have hx := C.1
  have hb := C.2.1
  have hbA : ¬ (fun q : Nat => s.heap.size ≤ q) b0 := Nat.not_le.mpr hbl
  obtain ⟨v, τ, υ, e1, e2, I2⟩ := b_tear  I
  refine lv_aload_n hx hb dL_law_688 rfl (lv_at hl 1 rfl) ?_
  refine callVI (ar := 0) (As := []) (rest := []) C G hl.1 (ctX11_tear _ e1) ⟨wd_838, wd_839, wd_840, wd_69, wd_841⟩ (by decide +kernel) rfl ⟨rfl, rfl⟩ ⟨(Nat.le_of_ble_eq_true rfl), (Nat.le_of_ble_eq_true rfl)⟩ (by omega) (ent_11 _ cI cZ cO _ kd_0) rfl (Nat.le_of_ble_eq_true rfl) ⟨(Nat.le_of_ble_eq_true rfl), (Nat.le_of_ble_eq_true rfl)⟩ dL_law_689 rfl (fun H locs G => ?_)
  refine lv_aload_n hx hb dL_law_692 rfl (lv_at hl 2 rfl) ?_
  refine callVI (ar := 0) (As := []) (rest := [.int v]) C G hl.1 (ctX12_tear _ e2) ⟨wd_1261, wd_1262, wd_1263, wd_81, wd_1264⟩ (by decide +kernel) rfl ⟨rfl, rfl⟩ ⟨(Nat.le_of_ble_eq_true rfl), (Nat.le_of_ble_eq_true rfl)⟩ (by omega) (ent_12 _ cI cZ cO _ kd_132) rfl (Nat.le_of_ble_eq_true rfl) ⟨(Nat.le_of_ble_eq_true rfl), (Nat.le_of_ble_eq_true rfl)⟩ dL_law_693 rfl (fun H locs G => ?_)
  exact lv_icmp_eq (tgt := 783) hx hb dL_law_696 (by decide) (fun _ => next υ H locs I2 G) (fun c1 => absurd rfl c1)
set_option maxRecDepth 100000 in
set_option maxHeartbeats 4000000 in
theorem lc_judge (C : Cx p s m #[.ref b0] meth c cL_law RL 4 (some .boolean) D cI cZ cO) (hXs : va_X b0 L xs s s.heap) (hbl : b0 < s.heap.size) {i : Nat} (hi : i + 4 ≤ L) (hL : L ≤ 2048) {σ : Sg} (I : Inv σ) {H : Heap} {locs : List Loc} (G : Gd s.heap.size D cI cZ cO σ s.heap H locs) {ls : Array Slot} (hl : lv_has ls 4 [(0, .ref b0), (1, .ref (s.heap.size + 0)), (2, .ref (s.heap.size + 132)), (3, .int (nI i))]) {Q : State → Prop} (next : ∀ (σ : Sg) (H : Heap) (locs : List Loc), Inv σ → Gd s.heap.size D cI cZ cO σ s.heap H locs → W p l e room_1 s m #[.ref b0] below meth c H locs 151 4204 Q (F0 m 783 ls [])) : W p l e room_1 s m #[.ref b0] below meth c H locs 151 4204 Q (F0 m 701 ls []) := by
  have hx := C.1
  have hb := C.2.1
  have hbA : ¬ (fun q : Nat => s.heap.size ≤ q) b0 := Nat.not_le.mpr hbl
  obtain ⟨v, τ, υ, e1, e2, I2⟩ := b_judge  I
  refine lv_aload_n hx hb dL_law_701 rfl (lv_at hl 1 rfl) ?_
  refine callVI (ar := 0) (As := []) (rest := []) C G hl.1 (ctX11_judge _ e1) ⟨wd_842, wd_843, wd_844, wd_69, wd_845⟩ (by decide +kernel) rfl ⟨rfl, rfl⟩ ⟨(Nat.le_of_ble_eq_true rfl), (Nat.le_of_ble_eq_true rfl)⟩ (by omega) (ent_11 _ cI cZ cO _ kd_0) rfl (Nat.le_of_ble_eq_true rfl) ⟨(Nat.le_of_ble_eq_true rfl), (Nat.le_of_ble_eq_true rfl)⟩ dL_law_702 rfl (fun H locs G => ?_)
  refine lv_aload_n hx hb dL_law_705 rfl (lv_at hl 2 rfl) ?_
  refine callVI (ar := 0) (As := []) (rest := [.int v]) C G hl.1 (ctX12_judge _ e2) ⟨wd_1265, wd_1266, wd_1267, wd_81, wd_1268⟩ (by decide +kernel) rfl ⟨rfl, rfl⟩ ⟨(Nat.le_of_ble_eq_true rfl), (Nat.le_of_ble_eq_true rfl)⟩ (by omega) (ent_12 _ cI cZ cO _ kd_132) rfl (Nat.le_of_ble_eq_true rfl) ⟨(Nat.le_of_ble_eq_true rfl), (Nat.le_of_ble_eq_true rfl)⟩ dL_law_706 rfl (fun H locs G => ?_)
  exact lv_icmp_eq (tgt := 783) hx hb dL_law_709 (by decide) (fun _ => next υ H locs I2 G) (fun c1 => absurd rfl c1)
set_option maxRecDepth 100000 in
set_option maxHeartbeats 4000000 in
theorem lc_seed (C : Cx p s m #[.ref b0] meth c cL_law RL 4 (some .boolean) D cI cZ cO) (hXs : va_X b0 L xs s s.heap) (hbl : b0 < s.heap.size) {i : Nat} (hi : i + 4 ≤ L) (hL : L ≤ 2048) {σ : Sg} (I : Inv σ) {H : Heap} {locs : List Loc} (G : Gd s.heap.size D cI cZ cO σ s.heap H locs) {ls : Array Slot} (hl : lv_has ls 4 [(0, .ref b0), (1, .ref (s.heap.size + 0)), (2, .ref (s.heap.size + 132)), (3, .int (nI i))]) {Q : State → Prop} (next : ∀ (σ : Sg) (H : Heap) (locs : List Loc), Inv σ → Gd s.heap.size D cI cZ cO σ s.heap H locs → W p l e room_1 s m #[.ref b0] below meth c H locs 151 4204 Q (F0 m 783 ls [])) : W p l e room_1 s m #[.ref b0] below meth c H locs 151 4204 Q (F0 m 714 ls []) := by
  have hx := C.1
  have hb := C.2.1
  have hbA : ¬ (fun q : Nat => s.heap.size ≤ q) b0 := Nat.not_le.mpr hbl
  obtain ⟨v, τ, υ, e1, e2, I2⟩ := b_seed (xs (nI i + 1).toNatClampNeg) I
  refine lv_aload_n hx hb dL_law_714 rfl (lv_at hl 1 rfl) ?_
  refine lv_aload_n hx hb dL_law_715 rfl (lv_at hl 0 rfl) ?_
  refine lv_iload_n hx hb dL_law_716 rfl (lv_at hl 3 rfl) ?_
  refine lv_iconst (v := 1) hx hb dL_law_717 (by decide) ?_
  refine lv_iadd hx hb dL_law_718 ?_
  refine va_sld hx hb hXs hbl hbA G.2 (lw_in (j := 1) (by omega) hL) dL_law_719 ?_
  refine callVI (ar := 1) (As := [.int (xs (nI i + 1).toNatClampNeg)]) (rest := []) C G hl.1 (ctX11_seed _ e1) ⟨wd_850, wd_851, wd_852, wd_69, wd_853⟩ (by decide +kernel) rfl ⟨rfl, rfl⟩ ⟨(Nat.le_of_ble_eq_true rfl), (Nat.le_of_ble_eq_true rfl)⟩ (by omega) (ent_11 _ cI cZ cO _ kd_0) rfl (Nat.le_of_ble_eq_true rfl) ⟨(Nat.le_of_ble_eq_true rfl), (Nat.le_of_ble_eq_true rfl)⟩ dL_law_720 rfl (fun H locs G => ?_)
  refine lv_aload_n hx hb dL_law_723 rfl (lv_at hl 2 rfl) ?_
  refine lv_aload_n hx hb dL_law_724 rfl (lv_at hl 0 rfl) ?_
  refine lv_iload_n hx hb dL_law_725 rfl (lv_at hl 3 rfl) ?_
  refine lv_iconst (v := 1) hx hb dL_law_726 (by decide) ?_
  refine lv_iadd hx hb dL_law_727 ?_
  refine va_sld hx hb hXs hbl hbA G.2 (lw_in (j := 1) (by omega) hL) dL_law_728 ?_
  refine callVI (ar := 1) (As := [.int (xs (nI i + 1).toNatClampNeg)]) (rest := [.int v]) C G hl.1 (ctX12_seed _ e2) ⟨wd_1269, wd_1270, wd_1271, wd_81, wd_1272⟩ (by decide +kernel) rfl ⟨rfl, rfl⟩ ⟨(Nat.le_of_ble_eq_true rfl), (Nat.le_of_ble_eq_true rfl)⟩ (by omega) (ent_12 _ cI cZ cO _ kd_132) rfl (Nat.le_of_ble_eq_true rfl) ⟨(Nat.le_of_ble_eq_true rfl), (Nat.le_of_ble_eq_true rfl)⟩ dL_law_729 rfl (fun H locs G => ?_)
  exact lv_icmp_eq (tgt := 783) hx hb dL_law_732 (by decide) (fun _ => next υ H locs I2 G) (fun c1 => absurd rfl c1)
set_option maxRecDepth 100000 in
set_option maxHeartbeats 4000000 in
theorem lc_keep (C : Cx p s m #[.ref b0] meth c cL_law RL 4 (some .boolean) D cI cZ cO) (hXs : va_X b0 L xs s s.heap) (hbl : b0 < s.heap.size) {i : Nat} (hi : i + 4 ≤ L) (hL : L ≤ 2048) {σ : Sg} (I : Inv σ) {H : Heap} {locs : List Loc} (G : Gd s.heap.size D cI cZ cO σ s.heap H locs) {ls : Array Slot} (hl : lv_has ls 4 [(0, .ref b0), (1, .ref (s.heap.size + 0)), (2, .ref (s.heap.size + 132)), (3, .int (nI i))]) {Q : State → Prop} (next : ∀ (σ : Sg) (H : Heap) (locs : List Loc), Inv σ → Gd s.heap.size D cI cZ cO σ s.heap H locs → W p l e room_1 s m #[.ref b0] below meth c H locs 151 4204 Q (F0 m 783 ls [])) : W p l e room_1 s m #[.ref b0] below meth c H locs 151 4204 Q (F0 m 737 ls []) := by
  have hx := C.1
  have hb := C.2.1
  have hbA : ¬ (fun q : Nat => s.heap.size ≤ q) b0 := Nat.not_le.mpr hbl
  obtain ⟨v, τ, υ, e1, e2, I2⟩ := b_keep (xs (nI i + 1).toNatClampNeg) I
  refine lv_aload_n hx hb dL_law_737 rfl (lv_at hl 1 rfl) ?_
  refine lv_aload_n hx hb dL_law_738 rfl (lv_at hl 0 rfl) ?_
  refine lv_iload_n hx hb dL_law_739 rfl (lv_at hl 3 rfl) ?_
  refine lv_iconst (v := 1) hx hb dL_law_740 (by decide) ?_
  refine lv_iadd hx hb dL_law_741 ?_
  refine va_sld hx hb hXs hbl hbA G.2 (lw_in (j := 1) (by omega) hL) dL_law_742 ?_
  refine callVI (ar := 1) (As := [.int (xs (nI i + 1).toNatClampNeg)]) (rest := []) C G hl.1 (ctX11_keep _ e1) ⟨wd_854, wd_855, wd_856, wd_69, wd_857⟩ (by decide +kernel) rfl ⟨rfl, rfl⟩ ⟨(Nat.le_of_ble_eq_true rfl), (Nat.le_of_ble_eq_true rfl)⟩ (by omega) (ent_11 _ cI cZ cO _ kd_0) rfl (Nat.le_of_ble_eq_true rfl) ⟨(Nat.le_of_ble_eq_true rfl), (Nat.le_of_ble_eq_true rfl)⟩ dL_law_743 rfl (fun H locs G => ?_)
  refine lv_aload_n hx hb dL_law_746 rfl (lv_at hl 2 rfl) ?_
  refine lv_aload_n hx hb dL_law_747 rfl (lv_at hl 0 rfl) ?_
  refine lv_iload_n hx hb dL_law_748 rfl (lv_at hl 3 rfl) ?_
  refine lv_iconst (v := 1) hx hb dL_law_749 (by decide) ?_
  refine lv_iadd hx hb dL_law_750 ?_
  refine va_sld hx hb hXs hbl hbA G.2 (lw_in (j := 1) (by omega) hL) dL_law_751 ?_
  refine callVI (ar := 1) (As := [.int (xs (nI i + 1).toNatClampNeg)]) (rest := [.int v]) C G hl.1 (ctX12_keep _ e2) ⟨wd_1273, wd_1274, wd_1275, wd_81, wd_1276⟩ (by decide +kernel) rfl ⟨rfl, rfl⟩ ⟨(Nat.le_of_ble_eq_true rfl), (Nat.le_of_ble_eq_true rfl)⟩ (by omega) (ent_12 _ cI cZ cO _ kd_132) rfl (Nat.le_of_ble_eq_true rfl) ⟨(Nat.le_of_ble_eq_true rfl), (Nat.le_of_ble_eq_true rfl)⟩ dL_law_752 rfl (fun H locs G => ?_)
  exact lv_icmp_eq (tgt := 783) hx hb dL_law_755 (by decide) (fun _ => next υ H locs I2 G) (fun c1 => absurd rfl c1)
set_option maxRecDepth 100000 in
set_option maxHeartbeats 4000000 in
theorem lc_goBack (C : Cx p s m #[.ref b0] meth c cL_law RL 4 (some .boolean) D cI cZ cO) (hXs : va_X b0 L xs s s.heap) (hbl : b0 < s.heap.size) {i : Nat} (hi : i + 4 ≤ L) (hL : L ≤ 2048) {σ : Sg} (I : Inv σ) {H : Heap} {locs : List Loc} (G : Gd s.heap.size D cI cZ cO σ s.heap H locs) {ls : Array Slot} (hl : lv_has ls 4 [(0, .ref b0), (1, .ref (s.heap.size + 0)), (2, .ref (s.heap.size + 132)), (3, .int (nI i))]) {Q : State → Prop} (next : ∀ (σ : Sg) (H : Heap) (locs : List Loc), Inv σ → Gd s.heap.size D cI cZ cO σ s.heap H locs → W p l e room_1 s m #[.ref b0] below meth c H locs 151 4204 Q (F0 m 783 ls [])) : W p l e room_1 s m #[.ref b0] below meth c H locs 151 4204 Q (F0 m 760 ls []) := by
  have hx := C.1
  have hb := C.2.1
  have hbA : ¬ (fun q : Nat => s.heap.size ≤ q) b0 := Nat.not_le.mpr hbl
  obtain ⟨v, τ, υ, e1, e2, I2⟩ := b_goBack (xs (nI i + 1).toNatClampNeg) I
  refine lv_aload_n hx hb dL_law_760 rfl (lv_at hl 1 rfl) ?_
  refine lv_aload_n hx hb dL_law_761 rfl (lv_at hl 0 rfl) ?_
  refine lv_iload_n hx hb dL_law_762 rfl (lv_at hl 3 rfl) ?_
  refine lv_iconst (v := 1) hx hb dL_law_763 (by decide) ?_
  refine lv_iadd hx hb dL_law_764 ?_
  refine va_sld hx hb hXs hbl hbA G.2 (lw_in (j := 1) (by omega) hL) dL_law_765 ?_
  refine callVI (ar := 1) (As := [.int (xs (nI i + 1).toNatClampNeg)]) (rest := []) C G hl.1 (ctX11_goBack _ e1) ⟨wd_863, wd_864, wd_865, wd_69, wd_866⟩ (by decide +kernel) rfl ⟨rfl, rfl⟩ ⟨(Nat.le_of_ble_eq_true rfl), (Nat.le_of_ble_eq_true rfl)⟩ (by omega) (ent_11 _ cI cZ cO _ kd_0) rfl (Nat.le_of_ble_eq_true rfl) ⟨(Nat.le_of_ble_eq_true rfl), (Nat.le_of_ble_eq_true rfl)⟩ dL_law_766 rfl (fun H locs G => ?_)
  refine lv_aload_n hx hb dL_law_769 rfl (lv_at hl 2 rfl) ?_
  refine lv_aload_n hx hb dL_law_770 rfl (lv_at hl 0 rfl) ?_
  refine lv_iload_n hx hb dL_law_771 rfl (lv_at hl 3 rfl) ?_
  refine lv_iconst (v := 1) hx hb dL_law_772 (by decide) ?_
  refine lv_iadd hx hb dL_law_773 ?_
  refine va_sld hx hb hXs hbl hbA G.2 (lw_in (j := 1) (by omega) hL) dL_law_774 ?_
  refine callVI (ar := 1) (As := [.int (xs (nI i + 1).toNatClampNeg)]) (rest := [.int v]) C G hl.1 (ctX12_goBack _ e2) ⟨wd_1277, wd_1278, wd_1279, wd_81, wd_1280⟩ (by decide +kernel) rfl ⟨rfl, rfl⟩ ⟨(Nat.le_of_ble_eq_true rfl), (Nat.le_of_ble_eq_true rfl)⟩ (by omega) (ent_12 _ cI cZ cO _ kd_132) rfl (Nat.le_of_ble_eq_true rfl) ⟨(Nat.le_of_ble_eq_true rfl), (Nat.le_of_ble_eq_true rfl)⟩ dL_law_775 rfl (fun H locs G => ?_)
  exact lv_icmp_eq (tgt := 783) hx hb dL_law_778 (by decide) (fun _ => next υ H locs I2 G) (fun c1 => absurd rfl c1)
end Law
