-- X11_person
def rmX11_person : Room := { frames := 5, cells := 0, slots := 0, locals := 125 }
def fX11_person (σ : Sg) (x1 : Int32) (x2 : Int32) : Option (Int32 × Sg) :=
  bi (fX2_isPerson σ x1) (fun r_1 σ_1 => (if r_1 = 0 then some ((-1000000001), σ_1) else (if x2 = 0 then gk 4 (dn (σ_1 3 0)) (fun n_4 => (if inb x1 7 then some ((σ_1 (n_4 + 1) x1.toNatClampNeg), σ_1) else none)) else (if x2 = 1 then gk 4 (dn (σ_1 3 0)) (fun n_6 => (if inb x1 7 then some ((σ_1 (n_6 + 2) x1.toNatClampNeg), σ_1) else none)) else (if x2 = 2 then (if inb x1 7 then some ((σ_1 14 x1.toNatClampNeg), σ_1) else none) else (if x2 = 3 then gk 4 (dn (σ_1 3 0)) (fun n_9 => (if inb x1 7 then some ((σ_1 (n_9 + 4) x1.toNatClampNeg), σ_1) else none)) else (if x2 = 4 then (if inb x1 7 then some ((σ_1 12 x1.toNatClampNeg), σ_1) else none) else (if x2 = 5 then (if inb x1 7 then some ((σ_1 13 x1.toNatClampNeg), σ_1) else none) else (if x2 = 6 then bi (fX2_rid σ_1 x1) (fun r_13 σ_13 => some (r_13, σ_13)) else (if x2 = 7 then gk 4 (dn (σ_1 3 0)) (fun n_14 => bi (fX4_ringOf n_14 σ_1 x1) (fun r_15 σ_15 => some (r_15, σ_15))) else (if x2 = 8 then gk 4 (dn (σ_1 3 0)) (fun n_16 => bi (fX4_firstOf n_16 σ_1 x1) (fun r_17 σ_17 => some (r_17, σ_17))) else some ((-1000000002), σ_1))))))))))))
set_option maxRecDepth 100000 in
set_option maxHeartbeats 4000000 in
theorem ctX11_person (l : Launch) {D : va_G} {cI cZ cO : ClassId} {b : Nat} {σ : Sg} {x1 : Int32} {x2 : Int32} {Rr : (Int32 × Sg)} (hs : fX11_person σ x1 x2 = some Rr) : MI l yX11_person cX11_person 3 (some .int) rmX11_person [.ref (b + 0), .int x1, .int x2] b D cI cZ cO σ Rr := by
  unfold fX11_person at hs
  refine metI (by decide +kernel) (Nat.le_of_ble_eq_true rfl) (fun p e s m below meth c ls C G hl => ?_)
  have C : Cx p s m _ meth c cX11_person RX11 3 (some .int) D cI cZ cO := C
  have hx := C.1
  have hb := C.2.1
  have hl : lv_has ls 3 [(0, .ref (b + 0)), (1, .int x1), (2, .int x2)] := hl
  refine lv_aload_n hx hb dX11_person_0 rfl (lv_at hl 0 rfl) ?_
  refine gf_X11_19 C G kd_0 (n' := 3) rfl dX11_person_1 ?_
  refine lv_iload_n hx hb dX11_person_4 rfl (lv_at hl 1 rfl) ?_
  obtain ⟨r_1, σ_1, hc, hs⟩ := biE hs
  refine callVI (ar := 1) (As := [.int x1]) (rest := []) C G hl.1 (ctX2_isPerson _  hc) ⟨wd_589, wd_590, wd_591, wd_71, wd_592⟩ (by decide +kernel) rfl ⟨rfl, rfl⟩ ⟨Nat.le_of_ble_eq_true rfl, Nat.le_of_ble_eq_true rfl⟩ (kd_lt kd_3 (by decide)) (ent_2 b cI cZ cO _ kd_3) rfl (Nat.le_of_ble_eq_true rfl) ⟨Nat.le_of_ble_eq_true rfl, Nat.le_of_ble_eq_true rfl⟩ dX11_person_5 rfl (fun H locs G => ?_)
  refine lv_if_ne (tgt := 14) hx hb dX11_person_8 (by decide) (fun c_2 => ?_) (fun c_2 => ?_)
  · replace hs := ifF c_2 hs
    refine lv_iload_n hx hb dX11_person_14 rfl (lv_at hl 2 rfl) ?_
    by_cases c_3_0 : x2 = 0
    · replace hs := ifT c_3_0 hs
      refine lv_tableIn (tgt := 64) hx hb dX11_person_15 (by rw [c_3_0]; decide) (by rw [c_3_0]; decide) (by rw [c_3_0]; rfl) (by decide) ?_
      refine lv_aload_n hx hb dX11_person_64 rfl (lv_at hl 0 rfl) ?_
      refine gf_X11_19 C G kd_0 (n' := 3) rfl dX11_person_65 ?_
      obtain ⟨n_4, en_4, hk_4, hs⟩ := gkE hs
      refine gf_X11_89 C G kd_3 en_4 dX11_person_68 ?_
      refine gf_X11_166 C G hk_4 (n' := (n_4 + 1)) rfl dX11_person_71 ?_
      refine lv_iload_n hx hb dX11_person_74 rfl (lv_at hl 1 rfl) ?_
      obtain ⟨g_5, hs⟩ := gdE hs
      refine m_iald C G (kH1 hk_4) (lH1 hk_4) g_5 dX11_person_75 ?_
      exact retI C G hs dX11_person_76
    · replace hs := ifF c_3_0 hs
      by_cases c_3_1 : x2 = 1
      · replace hs := ifT c_3_1 hs
        refine lv_tableIn (tgt := 77) hx hb dX11_person_15 (by rw [c_3_1]; decide) (by rw [c_3_1]; decide) (by rw [c_3_1]; rfl) (by decide) ?_
        refine lv_aload_n hx hb dX11_person_77 rfl (lv_at hl 0 rfl) ?_
        refine gf_X11_19 C G kd_0 (n' := 3) rfl dX11_person_78 ?_
        obtain ⟨n_6, en_6, hk_6, hs⟩ := gkE hs
        refine gf_X11_89 C G kd_3 en_6 dX11_person_81 ?_
        refine gf_X11_170 C G hk_6 (n' := (n_6 + 2)) rfl dX11_person_84 ?_
        refine lv_iload_n hx hb dX11_person_87 rfl (lv_at hl 1 rfl) ?_
        obtain ⟨g_7, hs⟩ := gdE hs
        refine m_iald C G (kH2 hk_6) (lH2 hk_6) g_7 dX11_person_88 ?_
        exact retI C G hs dX11_person_89
      · replace hs := ifF c_3_1 hs
        by_cases c_3_2 : x2 = 2
        · replace hs := ifT c_3_2 hs
          refine lv_tableIn (tgt := 90) hx hb dX11_person_15 (by rw [c_3_2]; decide) (by rw [c_3_2]; decide) (by rw [c_3_2]; rfl) (by decide) ?_
          refine lv_aload_n hx hb dX11_person_90 rfl (lv_at hl 0 rfl) ?_
          refine gf_X11_19 C G kd_0 (n' := 3) rfl dX11_person_91 ?_
          refine gf_X11_92 C G kd_3 (n' := 11) rfl dX11_person_94 ?_
          refine gf_X11_173 C G kd_11 (n' := 14) rfl dX11_person_97 ?_
          refine lv_iload_n hx hb dX11_person_100 rfl (lv_at hl 1 rfl) ?_
          obtain ⟨g_8, hs⟩ := gdE hs
          refine m_iald C G kd_14 ln_14 g_8 dX11_person_101 ?_
          exact retI C G hs dX11_person_102
        · replace hs := ifF c_3_2 hs
          by_cases c_3_3 : x2 = 3
          · replace hs := ifT c_3_3 hs
            refine lv_tableIn (tgt := 103) hx hb dX11_person_15 (by rw [c_3_3]; decide) (by rw [c_3_3]; decide) (by rw [c_3_3]; rfl) (by decide) ?_
            refine lv_aload_n hx hb dX11_person_103 rfl (lv_at hl 0 rfl) ?_
            refine gf_X11_19 C G kd_0 (n' := 3) rfl dX11_person_104 ?_
            obtain ⟨n_9, en_9, hk_9, hs⟩ := gkE hs
            refine gf_X11_89 C G kd_3 en_9 dX11_person_107 ?_
            refine gf_X11_176 C G hk_9 (n' := (n_9 + 4)) rfl dX11_person_110 ?_
            refine lv_iload_n hx hb dX11_person_113 rfl (lv_at hl 1 rfl) ?_
            obtain ⟨g_10, hs⟩ := gdE hs
            refine m_iald C G (kH4 hk_9) (lH4 hk_9) g_10 dX11_person_114 ?_
            exact retI C G hs dX11_person_115
          · replace hs := ifF c_3_3 hs
            by_cases c_3_4 : x2 = 4
            · replace hs := ifT c_3_4 hs
              refine lv_tableIn (tgt := 116) hx hb dX11_person_15 (by rw [c_3_4]; decide) (by rw [c_3_4]; decide) (by rw [c_3_4]; rfl) (by decide) ?_
              refine lv_aload_n hx hb dX11_person_116 rfl (lv_at hl 0 rfl) ?_
              refine gf_X11_19 C G kd_0 (n' := 3) rfl dX11_person_117 ?_
              refine gf_X11_92 C G kd_3 (n' := 11) rfl dX11_person_120 ?_
              refine gf_X11_179 C G kd_11 (n' := 12) rfl dX11_person_123 ?_
              refine lv_iload_n hx hb dX11_person_126 rfl (lv_at hl 1 rfl) ?_
              obtain ⟨g_11, hs⟩ := gdE hs
              refine m_iald C G kd_12 ln_12 g_11 dX11_person_127 ?_
              exact retI C G hs dX11_person_128
            · replace hs := ifF c_3_4 hs
              by_cases c_3_5 : x2 = 5
              · replace hs := ifT c_3_5 hs
                refine lv_tableIn (tgt := 129) hx hb dX11_person_15 (by rw [c_3_5]; decide) (by rw [c_3_5]; decide) (by rw [c_3_5]; rfl) (by decide) ?_
                refine lv_aload_n hx hb dX11_person_129 rfl (lv_at hl 0 rfl) ?_
                refine gf_X11_19 C G kd_0 (n' := 3) rfl dX11_person_130 ?_
                refine gf_X11_92 C G kd_3 (n' := 11) rfl dX11_person_133 ?_
                refine gf_X11_182 C G kd_11 (n' := 13) rfl dX11_person_136 ?_
                refine lv_iload_n hx hb dX11_person_139 rfl (lv_at hl 1 rfl) ?_
                obtain ⟨g_12, hs⟩ := gdE hs
                refine m_iald C G kd_13 ln_13 g_12 dX11_person_140 ?_
                exact retI C G hs dX11_person_141
              · replace hs := ifF c_3_5 hs
                by_cases c_3_6 : x2 = 6
                · replace hs := ifT c_3_6 hs
                  refine lv_tableIn (tgt := 142) hx hb dX11_person_15 (by rw [c_3_6]; decide) (by rw [c_3_6]; decide) (by rw [c_3_6]; rfl) (by decide) ?_
                  refine lv_aload_n hx hb dX11_person_142 rfl (lv_at hl 0 rfl) ?_
                  refine gf_X11_19 C G kd_0 (n' := 3) rfl dX11_person_143 ?_
                  refine lv_iload_n hx hb dX11_person_146 rfl (lv_at hl 1 rfl) ?_
                  obtain ⟨r_13, σ_13, hc, hs⟩ := biE hs
                  refine callVI (ar := 1) (As := [.int x1]) (rest := []) C G hl.1 (ctX2_rid _  hc) ⟨wd_594, wd_595, wd_596, wd_71, wd_597⟩ (by decide +kernel) rfl ⟨rfl, rfl⟩ ⟨Nat.le_of_ble_eq_true rfl, Nat.le_of_ble_eq_true rfl⟩ (kd_lt kd_3 (by decide)) (ent_2 b cI cZ cO _ kd_3) rfl (Nat.le_of_ble_eq_true rfl) ⟨Nat.le_of_ble_eq_true rfl, Nat.le_of_ble_eq_true rfl⟩ dX11_person_147 rfl (fun H locs G => ?_)
                  exact retI C G hs dX11_person_150
                · replace hs := ifF c_3_6 hs
                  by_cases c_3_7 : x2 = 7
                  · replace hs := ifT c_3_7 hs
                    refine lv_tableIn (tgt := 151) hx hb dX11_person_15 (by rw [c_3_7]; decide) (by rw [c_3_7]; decide) (by rw [c_3_7]; rfl) (by decide) ?_
                    refine lv_aload_n hx hb dX11_person_151 rfl (lv_at hl 0 rfl) ?_
                    refine gf_X11_19 C G kd_0 (n' := 3) rfl dX11_person_152 ?_
                    obtain ⟨n_14, en_14, hk_14, hs⟩ := gkE hs
                    refine gf_X11_89 C G kd_3 en_14 dX11_person_155 ?_
                    refine lv_iload_n hx hb dX11_person_158 rfl (lv_at hl 1 rfl) ?_
                    obtain ⟨r_15, σ_15, hc, hs⟩ := biE hs
                    refine callVI (ar := 1) (As := [.int x1]) (rest := []) C G hl.1 (ctX4_ringOf _ hk_14 hc) ⟨wd_617, wd_618, wd_619, wd_72, wd_620⟩ (by decide +kernel) rfl ⟨rfl, rfl⟩ ⟨Nat.le_of_ble_eq_true rfl, Nat.le_of_ble_eq_true rfl⟩ (kd_lt hk_14 (by decide)) (ent_4 b cI cZ cO _ hk_14) rfl (Nat.le_of_ble_eq_true rfl) ⟨Nat.le_of_ble_eq_true rfl, Nat.le_of_ble_eq_true rfl⟩ dX11_person_159 rfl (fun H locs G => ?_)
                    exact retI C G hs dX11_person_162
                  · replace hs := ifF c_3_7 hs
                    by_cases c_3_8 : x2 = 8
                    · replace hs := ifT c_3_8 hs
                      refine lv_tableIn (tgt := 163) hx hb dX11_person_15 (by rw [c_3_8]; decide) (by rw [c_3_8]; decide) (by rw [c_3_8]; rfl) (by decide) ?_
                      refine lv_aload_n hx hb dX11_person_163 rfl (lv_at hl 0 rfl) ?_
                      refine gf_X11_19 C G kd_0 (n' := 3) rfl dX11_person_164 ?_
                      obtain ⟨n_16, en_16, hk_16, hs⟩ := gkE hs
                      refine gf_X11_89 C G kd_3 en_16 dX11_person_167 ?_
                      refine lv_iload_n hx hb dX11_person_170 rfl (lv_at hl 1 rfl) ?_
                      obtain ⟨r_17, σ_17, hc, hs⟩ := biE hs
                      refine callVI (ar := 1) (As := [.int x1]) (rest := []) C G hl.1 (ctX4_firstOf _ hk_16 hc) ⟨wd_621, wd_622, wd_623, wd_72, wd_624⟩ (by decide +kernel) rfl ⟨rfl, rfl⟩ ⟨Nat.le_of_ble_eq_true rfl, Nat.le_of_ble_eq_true rfl⟩ (kd_lt hk_16 (by decide)) (ent_4 b cI cZ cO _ hk_16) rfl (Nat.le_of_ble_eq_true rfl) ⟨Nat.le_of_ble_eq_true rfl, Nat.le_of_ble_eq_true rfl⟩ dX11_person_171 rfl (fun H locs G => ?_)
                      exact retI C G hs dX11_person_174
                    · replace hs := ifF c_3_8 hs
                      refine lv_tableOut (tgt := 175) hx hb dX11_person_15 (by have t0 := tbl_ne c_3_0 (z := 0) (by decide); have t1 := tbl_ne c_3_1 (z := 1) (by decide); have t2 := tbl_ne c_3_2 (z := 2) (by decide); have t3 := tbl_ne c_3_3 (z := 3) (by decide); have t4 := tbl_ne c_3_4 (z := 4) (by decide); have t5 := tbl_ne c_3_5 (z := 5) (by decide); have t6 := tbl_ne c_3_6 (z := 6) (by decide); have t7 := tbl_ne c_3_7 (z := 7) (by decide); have t8 := tbl_ne c_3_8 (z := 8) (by decide); omega) (by decide) ?_
                      refine m_ldc C wd_422 dX11_person_175 ?_
                      exact retI C G hs dX11_person_177
  · replace hs := ifT c_2 hs
    refine m_ldc C wd_593 dX11_person_11 ?_
    exact retI C G hs dX11_person_13
-- X11_village
def rmX11_village : Room := { frames := 4, cells := 0, slots := 0, locals := 85 }
def fX11_village (σ : Sg) (x1 : Int32) (x2 : Int32) : Option (Int32 × Sg) :=
  bi (fX2_isVillage σ x1) (fun r_1 σ_1 => (if r_1 = 0 then some ((-1000000001), σ_1) else (if x2 = 0 then (if inb x1 4 then some ((σ_1 15 x1.toNatClampNeg), σ_1) else none) else (if x2 = 1 then gk 4 (dn (σ_1 3 0)) (fun n_5 => (if inb x1 4 then some ((σ_1 (n_5 + 6) x1.toNatClampNeg), σ_1) else none)) else (if x2 = 2 then bi (fX2_had σ_1 x1) (fun r_7 σ_7 => some (r_7, σ_7)) else (if x2 = 3 then bi (fX2_harmIn σ_1 x1) (fun r_8 σ_8 => some (r_8, σ_8)) else some ((-1000000002), σ_1)))))))
set_option maxRecDepth 100000 in
set_option maxHeartbeats 4000000 in
theorem ctX11_village (l : Launch) {D : va_G} {cI cZ cO : ClassId} {b : Nat} {σ : Sg} {x1 : Int32} {x2 : Int32} {Rr : (Int32 × Sg)} (hs : fX11_village σ x1 x2 = some Rr) : MI l yX11_village cX11_village 3 (some .int) rmX11_village [.ref (b + 0), .int x1, .int x2] b D cI cZ cO σ Rr := by
  unfold fX11_village at hs
  refine metI (by decide +kernel) (Nat.le_of_ble_eq_true rfl) (fun p e s m below meth c ls C G hl => ?_)
  have C : Cx p s m _ meth c cX11_village RX11 3 (some .int) D cI cZ cO := C
  have hx := C.1
  have hb := C.2.1
  have hl : lv_has ls 3 [(0, .ref (b + 0)), (1, .int x1), (2, .int x2)] := hl
  refine lv_aload_n hx hb dX11_village_0 rfl (lv_at hl 0 rfl) ?_
  refine gf_X11_19 C G kd_0 (n' := 3) rfl dX11_village_1 ?_
  refine lv_iload_n hx hb dX11_village_4 rfl (lv_at hl 1 rfl) ?_
  obtain ⟨r_1, σ_1, hc, hs⟩ := biE hs
  refine callVI (ar := 1) (As := [.int x1]) (rest := []) C G hl.1 (ctX2_isVillage _  hc) ⟨wd_629, wd_630, wd_631, wd_71, wd_632⟩ (by decide +kernel) rfl ⟨rfl, rfl⟩ ⟨Nat.le_of_ble_eq_true rfl, Nat.le_of_ble_eq_true rfl⟩ (kd_lt kd_3 (by decide)) (ent_2 b cI cZ cO _ kd_3) rfl (Nat.le_of_ble_eq_true rfl) ⟨Nat.le_of_ble_eq_true rfl, Nat.le_of_ble_eq_true rfl⟩ dX11_village_5 rfl (fun H locs G => ?_)
  refine lv_if_ne (tgt := 14) hx hb dX11_village_8 (by decide) (fun c_2 => ?_) (fun c_2 => ?_)
  · replace hs := ifF c_2 hs
    refine lv_iload_n hx hb dX11_village_14 rfl (lv_at hl 2 rfl) ?_
    by_cases c_3_0 : x2 = 0
    · replace hs := ifT c_3_0 hs
      refine lv_tableIn (tgt := 44) hx hb dX11_village_15 (by rw [c_3_0]; decide) (by rw [c_3_0]; decide) (by rw [c_3_0]; rfl) (by decide) ?_
      refine lv_aload_n hx hb dX11_village_44 rfl (lv_at hl 0 rfl) ?_
      refine gf_X11_19 C G kd_0 (n' := 3) rfl dX11_village_45 ?_
      refine gf_X11_92 C G kd_3 (n' := 11) rfl dX11_village_48 ?_
      refine gf_X11_198 C G kd_11 (n' := 15) rfl dX11_village_51 ?_
      refine lv_iload_n hx hb dX11_village_54 rfl (lv_at hl 1 rfl) ?_
      obtain ⟨g_4, hs⟩ := gdE hs
      refine m_iald C G kd_15 ln_15 g_4 dX11_village_55 ?_
      exact retI C G hs dX11_village_56
    · replace hs := ifF c_3_0 hs
      by_cases c_3_1 : x2 = 1
      · replace hs := ifT c_3_1 hs
        refine lv_tableIn (tgt := 57) hx hb dX11_village_15 (by rw [c_3_1]; decide) (by rw [c_3_1]; decide) (by rw [c_3_1]; rfl) (by decide) ?_
        refine lv_aload_n hx hb dX11_village_57 rfl (lv_at hl 0 rfl) ?_
        refine gf_X11_19 C G kd_0 (n' := 3) rfl dX11_village_58 ?_
        obtain ⟨n_5, en_5, hk_5, hs⟩ := gkE hs
        refine gf_X11_89 C G kd_3 en_5 dX11_village_61 ?_
        refine gf_X11_201 C G hk_5 (n' := (n_5 + 6)) rfl dX11_village_64 ?_
        refine lv_iload_n hx hb dX11_village_67 rfl (lv_at hl 1 rfl) ?_
        obtain ⟨g_6, hs⟩ := gdE hs
        refine m_iald C G (kH6 hk_5) (lH6 hk_5) g_6 dX11_village_68 ?_
        exact retI C G hs dX11_village_69
      · replace hs := ifF c_3_1 hs
        by_cases c_3_2 : x2 = 2
        · replace hs := ifT c_3_2 hs
          refine lv_tableIn (tgt := 70) hx hb dX11_village_15 (by rw [c_3_2]; decide) (by rw [c_3_2]; decide) (by rw [c_3_2]; rfl) (by decide) ?_
          refine lv_aload_n hx hb dX11_village_70 rfl (lv_at hl 0 rfl) ?_
          refine gf_X11_19 C G kd_0 (n' := 3) rfl dX11_village_71 ?_
          refine lv_iload_n hx hb dX11_village_74 rfl (lv_at hl 1 rfl) ?_
          obtain ⟨r_7, σ_7, hc, hs⟩ := biE hs
          refine callVI (ar := 1) (As := [.int x1]) (rest := []) C G hl.1 (ctX2_had _  hc) ⟨wd_633, wd_634, wd_635, wd_71, wd_636⟩ (by decide +kernel) rfl ⟨rfl, rfl⟩ ⟨Nat.le_of_ble_eq_true rfl, Nat.le_of_ble_eq_true rfl⟩ (kd_lt kd_3 (by decide)) (ent_2 b cI cZ cO _ kd_3) rfl (Nat.le_of_ble_eq_true rfl) ⟨Nat.le_of_ble_eq_true rfl, Nat.le_of_ble_eq_true rfl⟩ dX11_village_75 rfl (fun H locs G => ?_)
          exact retI C G hs dX11_village_78
        · replace hs := ifF c_3_2 hs
          by_cases c_3_3 : x2 = 3
          · replace hs := ifT c_3_3 hs
            refine lv_tableIn (tgt := 79) hx hb dX11_village_15 (by rw [c_3_3]; decide) (by rw [c_3_3]; decide) (by rw [c_3_3]; rfl) (by decide) ?_
            refine lv_aload_n hx hb dX11_village_79 rfl (lv_at hl 0 rfl) ?_
            refine gf_X11_19 C G kd_0 (n' := 3) rfl dX11_village_80 ?_
            refine lv_iload_n hx hb dX11_village_83 rfl (lv_at hl 1 rfl) ?_
            obtain ⟨r_8, σ_8, hc, hs⟩ := biE hs
            refine callVI (ar := 1) (As := [.int x1]) (rest := []) C G hl.1 (ctX2_harmIn _  hc) ⟨wd_642, wd_643, wd_644, wd_71, wd_645⟩ (by decide +kernel) rfl ⟨rfl, rfl⟩ ⟨Nat.le_of_ble_eq_true rfl, Nat.le_of_ble_eq_true rfl⟩ (kd_lt kd_3 (by decide)) (ent_2 b cI cZ cO _ kd_3) rfl (Nat.le_of_ble_eq_true rfl) ⟨Nat.le_of_ble_eq_true rfl, Nat.le_of_ble_eq_true rfl⟩ dX11_village_84 rfl (fun H locs G => ?_)
            exact retI C G hs dX11_village_87
          · replace hs := ifF c_3_3 hs
            refine lv_tableOut (tgt := 88) hx hb dX11_village_15 (by have t0 := tbl_ne c_3_0 (z := 0) (by decide); have t1 := tbl_ne c_3_1 (z := 1) (by decide); have t2 := tbl_ne c_3_2 (z := 2) (by decide); have t3 := tbl_ne c_3_3 (z := 3) (by decide); omega) (by decide) ?_
            refine m_ldc C wd_422 dX11_village_88 ?_
            exact retI C G hs dX11_village_90
  · replace hs := ifT c_2 hs
    refine m_ldc C wd_593 dX11_village_11 ?_
    exact retI C G hs dX11_village_13
-- X11_tell
def rmX11_tell : Room := { frames := 3, cells := 0, slots := 0, locals := 72 }
def fX11_tell_24 (σ : Sg) : Option (Int32 × Sg) :=
  some ((-1000000002), σ)
set_option maxRecDepth 100000 in
set_option maxHeartbeats 4000000 in
theorem wX11_tell_24 {p : Program} {l : Launch} {e : Env} {s : State} {m : MethodId} {args : Array Value} {below : List Frame} {meth : Method} {c : Code} {D : va_G} {cI cZ cO : ClassId} {b : Nat} (C : Cx p s m args meth c cX11_tell RX11 4 (some .int) D cI cZ cO) {Rr : (Int32 × Sg)} {σ : Sg} {H : Heap} {locs : List Loc} {ls : Array Slot} (hs : fX11_tell_24 σ = some Rr) (G : Gd b D cI cZ cO σ s.heap H locs) (hl : lv_has ls 4 []) : W p l e rmX11_tell s m args below meth c H locs 0 0 (MQ below (QI b D cI cZ cO Rr) args s 0 0 (fun q => b ≤ q)) (F0 m 24 ls []) := by
  have hx := C.1
  have hb := C.2.1
  unfold fX11_tell_24 at hs
  refine m_ldc C wd_422 dX11_tell_24 ?_
  exact retI C G hs dX11_tell_26
def fX11_tell (σ : Sg) (x1 : Int32) (x2 : Int32) : Option (Int32 × Sg) :=
  bi (fX2_isPerson σ x1) (fun r_1 σ_1 => (if r_1 = 0 then some ((-1000000001), σ_1) else (if x2 < 0 then fX11_tell_24 σ_1 else (if x2 ≤ 99 then bv (fX7_remember 11 σ_1) (fun σ_5 => (if inb x1 7 then lt (σ_5 12 x1.toNatClampNeg) (fun x3_7 => bv (fX2_foretell σ_5 x1 x2) (fun σ_8 => some (x3_7, σ_8))) else none)) else fX11_tell_24 σ_1))))
set_option maxRecDepth 100000 in
set_option maxHeartbeats 4000000 in
theorem ctX11_tell (l : Launch) {D : va_G} {cI cZ cO : ClassId} {b : Nat} {σ : Sg} {x1 : Int32} {x2 : Int32} {Rr : (Int32 × Sg)} (hs : fX11_tell σ x1 x2 = some Rr) : MI l yX11_tell cX11_tell 4 (some .int) rmX11_tell [.ref (b + 0), .int x1, .int x2] b D cI cZ cO σ Rr := by
  unfold fX11_tell at hs
  refine metI (by decide +kernel) (Nat.le_of_ble_eq_true rfl) (fun p e s m below meth c ls C G hl => ?_)
  have C : Cx p s m _ meth c cX11_tell RX11 4 (some .int) D cI cZ cO := C
  have hx := C.1
  have hb := C.2.1
  have hl : lv_has ls 4 [(0, .ref (b + 0)), (1, .int x1), (2, .int x2)] := hl
  refine lv_aload_n hx hb dX11_tell_0 rfl (lv_at hl 0 rfl) ?_
  refine gf_X11_19 C G kd_0 (n' := 3) rfl dX11_tell_1 ?_
  refine lv_iload_n hx hb dX11_tell_4 rfl (lv_at hl 1 rfl) ?_
  obtain ⟨r_1, σ_1, hc, hs⟩ := biE hs
  refine callVI (ar := 1) (As := [.int x1]) (rest := []) C G hl.1 (ctX2_isPerson _  hc) ⟨wd_589, wd_590, wd_591, wd_71, wd_592⟩ (by decide +kernel) rfl ⟨rfl, rfl⟩ ⟨Nat.le_of_ble_eq_true rfl, Nat.le_of_ble_eq_true rfl⟩ (kd_lt kd_3 (by decide)) (ent_2 b cI cZ cO _ kd_3) rfl (Nat.le_of_ble_eq_true rfl) ⟨Nat.le_of_ble_eq_true rfl, Nat.le_of_ble_eq_true rfl⟩ dX11_tell_5 rfl (fun H locs G => ?_)
  refine lv_if_ne (tgt := 14) hx hb dX11_tell_8 (by decide) (fun c_2 => ?_) (fun c_2 => ?_)
  · replace hs := ifF c_2 hs
    refine lv_iload_n hx hb dX11_tell_14 rfl (lv_at hl 2 rfl) ?_
    refine lv_if_lt (tgt := 24) hx hb dX11_tell_15 (by decide) (fun c_3 => ?_) (fun c_3 => ?_)
    · replace hs := ifT c_3 hs
      exact wX11_tell_24 C   hs G (lv_sub hl [] rfl)
    · replace hs := ifF c_3 hs
      refine lv_iload_n hx hb dX11_tell_18 rfl (lv_at hl 2 rfl) ?_
      refine lv_bipush (v := 99) hx hb dX11_tell_19 (by decide) ?_
      refine lv_icmp_le (tgt := 27) hx hb dX11_tell_21 (by decide) (fun c_4 => ?_) (fun c_4 => ?_)
      · replace hs := ifT c_4 hs
        refine lv_aload_n hx hb dX11_tell_27 rfl (lv_at hl 0 rfl) ?_
        refine gf_X11_26 C G kd_0 (n' := 17) rfl dX11_tell_28 ?_
        refine lv_aload_n hx hb dX11_tell_31 rfl (lv_at hl 0 rfl) ?_
        refine gf_X11_19 C G kd_0 (n' := 3) rfl dX11_tell_32 ?_
        refine gf_X11_92 C G kd_3 (n' := 11) rfl dX11_tell_35 ?_
        obtain ⟨σ_5, hc, hs⟩ := bvE hs
        refine callVV (ar := 1) (As := [.ref (b + 11)]) (rest := []) C G hl.1 (ctX7_remember _ kd_11 hc) ⟨wd_650, wd_651, wd_652, wd_75, wd_653⟩ (by decide +kernel) rfl ⟨rfl, rfl⟩ ⟨Nat.le_of_ble_eq_true rfl, Nat.le_of_ble_eq_true rfl⟩ (kd_lt kd_17 (by decide)) (ent_7 b cI cZ cO _ kd_17) rfl (Nat.le_of_ble_eq_true rfl) ⟨Nat.le_of_ble_eq_true rfl, Nat.le_of_ble_eq_true rfl⟩ dX11_tell_38 rfl (fun H locs G => ?_)
        refine lv_aload_n hx hb dX11_tell_41 rfl (lv_at hl 0 rfl) ?_
        refine gf_X11_19 C G kd_0 (n' := 3) rfl dX11_tell_42 ?_
        refine gf_X11_92 C G kd_3 (n' := 11) rfl dX11_tell_45 ?_
        refine gf_X11_179 C G kd_11 (n' := 12) rfl dX11_tell_48 ?_
        refine lv_iload_n hx hb dX11_tell_51 rfl (lv_at hl 1 rfl) ?_
        obtain ⟨g_6, hs⟩ := gdE hs
        refine m_iald C G kd_12 ln_12 g_6 dX11_tell_52 ?_
        refine topI hs (fun x3_7 hs => ?_)
        refine lv_istore_n (lv' := [(3, .int x3_7), (0, .ref (b + 0)), (1, .int x1), (2, .int x2)]) hx hb dX11_tell_53 rfl hl (by decide) rfl (fun ls hl => ?_)
        refine lv_aload_n hx hb dX11_tell_54 rfl (lv_at hl 1 rfl) ?_
        refine gf_X11_19 C G kd_0 (n' := 3) rfl dX11_tell_55 ?_
        refine lv_iload_n hx hb dX11_tell_58 rfl (lv_at hl 2 rfl) ?_
        refine lv_iload_n hx hb dX11_tell_59 rfl (lv_at hl 3 rfl) ?_
        obtain ⟨σ_8, hc, hs⟩ := bvE hs
        refine callVV (ar := 2) (As := [.int x1, .int x2]) (rest := []) C G hl.1 (ctX2_foretell _  hc) ⟨wd_658, wd_659, wd_660, wd_71, wd_661⟩ (by decide +kernel) rfl ⟨rfl, rfl⟩ ⟨Nat.le_of_ble_eq_true rfl, Nat.le_of_ble_eq_true rfl⟩ (kd_lt kd_3 (by decide)) (ent_2 b cI cZ cO _ kd_3) rfl (Nat.le_of_ble_eq_true rfl) ⟨Nat.le_of_ble_eq_true rfl, Nat.le_of_ble_eq_true rfl⟩ dX11_tell_60 rfl (fun H locs G => ?_)
        refine lv_iload_n hx hb dX11_tell_63 rfl (lv_at hl 0 rfl) ?_
        exact retI C G hs dX11_tell_64
      · replace hs := ifF c_4 hs
        exact wX11_tell_24 C   hs G (lv_sub hl [] rfl)
  · replace hs := ifT c_2 hs
    refine m_ldc C wd_593 dX11_tell_11 ?_
    exact retI C G hs dX11_tell_13
-- X11_answer
def rmX11_answer : Room := { frames := 5, cells := 0, slots := 0, locals := 125 }
def fX11_answer_22 (σ : Sg) : Option (Int32 × Sg) :=
  some ((-1000000001), σ)
set_option maxRecDepth 100000 in
set_option maxHeartbeats 4000000 in
theorem wX11_answer_22 {p : Program} {l : Launch} {e : Env} {s : State} {m : MethodId} {args : Array Value} {below : List Frame} {meth : Method} {c : Code} {D : va_G} {cI cZ cO : ClassId} {b : Nat} (C : Cx p s m args meth c cX11_answer RX11 3 (some .int) D cI cZ cO) {Rr : (Int32 × Sg)} {σ : Sg} {H : Heap} {locs : List Loc} {ls : Array Slot} (hs : fX11_answer_22 σ = some Rr) (G : Gd b D cI cZ cO σ s.heap H locs) (hl : lv_has ls 3 []) : W p l e rmX11_answer s m args below meth c H locs 0 0 (MQ below (QI b D cI cZ cO Rr) args s 0 0 (fun q => b ≤ q)) (F0 m 22 ls []) := by
  have hx := C.1
  have hb := C.2.1
  unfold fX11_answer_22 at hs
  refine m_ldc C wd_593 dX11_answer_22 ?_
  exact retI C G hs dX11_answer_24
def fX11_answer (σ : Sg) (x1 : Int32) (x2 : Int32) : Option (Int32 × Sg) :=
  bi (fX2_isPerson σ x1) (fun r_1 σ_1 => (if r_1 = 0 then fX11_answer_22 σ_1 else bi (fX2_isPerson σ_1 x2) (fun r_3 σ_3 => (if r_3 = 0 then fX11_answer_22 σ_3 else bi (fX2_canAnswer σ_3 x1 x2) (fun r_5 σ_5 => (if r_5 = 0 then some ((-1000000003), σ_5) else bv (fX7_remember 11 σ_5) (fun σ_7 => bv (fX2_answerBack σ_7 x1 x2) (fun σ_8 => (if inb x1 7 then some ((σ_8 12 x1.toNatClampNeg), σ_8) else none)))))))))
set_option maxRecDepth 100000 in
set_option maxHeartbeats 4000000 in
theorem ctX11_answer (l : Launch) {D : va_G} {cI cZ cO : ClassId} {b : Nat} {σ : Sg} {x1 : Int32} {x2 : Int32} {Rr : (Int32 × Sg)} (hs : fX11_answer σ x1 x2 = some Rr) : MI l yX11_answer cX11_answer 3 (some .int) rmX11_answer [.ref (b + 0), .int x1, .int x2] b D cI cZ cO σ Rr := by
  unfold fX11_answer at hs
  refine metI (by decide +kernel) (Nat.le_of_ble_eq_true rfl) (fun p e s m below meth c ls C G hl => ?_)
  have C : Cx p s m _ meth c cX11_answer RX11 3 (some .int) D cI cZ cO := C
  have hx := C.1
  have hb := C.2.1
  have hl : lv_has ls 3 [(0, .ref (b + 0)), (1, .int x1), (2, .int x2)] := hl
  refine lv_aload_n hx hb dX11_answer_0 rfl (lv_at hl 0 rfl) ?_
  refine gf_X11_19 C G kd_0 (n' := 3) rfl dX11_answer_1 ?_
  refine lv_iload_n hx hb dX11_answer_4 rfl (lv_at hl 1 rfl) ?_
  obtain ⟨r_1, σ_1, hc, hs⟩ := biE hs
  refine callVI (ar := 1) (As := [.int x1]) (rest := []) C G hl.1 (ctX2_isPerson _  hc) ⟨wd_589, wd_590, wd_591, wd_71, wd_592⟩ (by decide +kernel) rfl ⟨rfl, rfl⟩ ⟨Nat.le_of_ble_eq_true rfl, Nat.le_of_ble_eq_true rfl⟩ (kd_lt kd_3 (by decide)) (ent_2 b cI cZ cO _ kd_3) rfl (Nat.le_of_ble_eq_true rfl) ⟨Nat.le_of_ble_eq_true rfl, Nat.le_of_ble_eq_true rfl⟩ dX11_answer_5 rfl (fun H locs G => ?_)
  refine lv_if_eq (tgt := 22) hx hb dX11_answer_8 (by decide) (fun c_2 => ?_) (fun c_2 => ?_)
  · replace hs := ifT c_2 hs
    exact wX11_answer_22 C   hs G (lv_sub hl [] rfl)
  · replace hs := ifF c_2 hs
    refine lv_aload_n hx hb dX11_answer_11 rfl (lv_at hl 0 rfl) ?_
    refine gf_X11_19 C G kd_0 (n' := 3) rfl dX11_answer_12 ?_
    refine lv_iload_n hx hb dX11_answer_15 rfl (lv_at hl 2 rfl) ?_
    obtain ⟨r_3, σ_3, hc, hs⟩ := biE hs
    refine callVI (ar := 1) (As := [.int x2]) (rest := []) C G hl.1 (ctX2_isPerson _  hc) ⟨wd_589, wd_590, wd_591, wd_71, wd_592⟩ (by decide +kernel) rfl ⟨rfl, rfl⟩ ⟨Nat.le_of_ble_eq_true rfl, Nat.le_of_ble_eq_true rfl⟩ (kd_lt kd_3 (by decide)) (ent_2 b cI cZ cO _ kd_3) rfl (Nat.le_of_ble_eq_true rfl) ⟨Nat.le_of_ble_eq_true rfl, Nat.le_of_ble_eq_true rfl⟩ dX11_answer_16 rfl (fun H locs G => ?_)
    refine lv_if_ne (tgt := 25) hx hb dX11_answer_19 (by decide) (fun c_4 => ?_) (fun c_4 => ?_)
    · replace hs := ifF c_4 hs
      refine lv_aload_n hx hb dX11_answer_25 rfl (lv_at hl 0 rfl) ?_
      refine gf_X11_19 C G kd_0 (n' := 3) rfl dX11_answer_26 ?_
      refine lv_iload_n hx hb dX11_answer_29 rfl (lv_at hl 1 rfl) ?_
      refine lv_iload_n hx hb dX11_answer_30 rfl (lv_at hl 2 rfl) ?_
      obtain ⟨r_5, σ_5, hc, hs⟩ := biE hs
      refine callVI (ar := 2) (As := [.int x1, .int x2]) (rest := []) C G hl.1 (ctX2_canAnswer _  hc) ⟨wd_666, wd_667, wd_668, wd_71, wd_669⟩ (by decide +kernel) rfl ⟨rfl, rfl⟩ ⟨Nat.le_of_ble_eq_true rfl, Nat.le_of_ble_eq_true rfl⟩ (kd_lt kd_3 (by decide)) (ent_2 b cI cZ cO _ kd_3) rfl (Nat.le_of_ble_eq_true rfl) ⟨Nat.le_of_ble_eq_true rfl, Nat.le_of_ble_eq_true rfl⟩ dX11_answer_31 rfl (fun H locs G => ?_)
      refine lv_if_ne (tgt := 40) hx hb dX11_answer_34 (by decide) (fun c_6 => ?_) (fun c_6 => ?_)
      · replace hs := ifF c_6 hs
        refine lv_aload_n hx hb dX11_answer_40 rfl (lv_at hl 0 rfl) ?_
        refine gf_X11_26 C G kd_0 (n' := 17) rfl dX11_answer_41 ?_
        refine lv_aload_n hx hb dX11_answer_44 rfl (lv_at hl 0 rfl) ?_
        refine gf_X11_19 C G kd_0 (n' := 3) rfl dX11_answer_45 ?_
        refine gf_X11_92 C G kd_3 (n' := 11) rfl dX11_answer_48 ?_
        obtain ⟨σ_7, hc, hs⟩ := bvE hs
        refine callVV (ar := 1) (As := [.ref (b + 11)]) (rest := []) C G hl.1 (ctX7_remember _ kd_11 hc) ⟨wd_650, wd_651, wd_652, wd_75, wd_653⟩ (by decide +kernel) rfl ⟨rfl, rfl⟩ ⟨Nat.le_of_ble_eq_true rfl, Nat.le_of_ble_eq_true rfl⟩ (kd_lt kd_17 (by decide)) (ent_7 b cI cZ cO _ kd_17) rfl (Nat.le_of_ble_eq_true rfl) ⟨Nat.le_of_ble_eq_true rfl, Nat.le_of_ble_eq_true rfl⟩ dX11_answer_51 rfl (fun H locs G => ?_)
        refine lv_aload_n hx hb dX11_answer_54 rfl (lv_at hl 0 rfl) ?_
        refine gf_X11_19 C G kd_0 (n' := 3) rfl dX11_answer_55 ?_
        refine lv_iload_n hx hb dX11_answer_58 rfl (lv_at hl 1 rfl) ?_
        refine lv_iload_n hx hb dX11_answer_59 rfl (lv_at hl 2 rfl) ?_
        obtain ⟨σ_8, hc, hs⟩ := bvE hs
        refine callVV (ar := 2) (As := [.int x1, .int x2]) (rest := []) C G hl.1 (ctX2_answerBack _  hc) ⟨wd_675, wd_676, wd_677, wd_71, wd_678⟩ (by decide +kernel) rfl ⟨rfl, rfl⟩ ⟨Nat.le_of_ble_eq_true rfl, Nat.le_of_ble_eq_true rfl⟩ (kd_lt kd_3 (by decide)) (ent_2 b cI cZ cO _ kd_3) rfl (Nat.le_of_ble_eq_true rfl) ⟨Nat.le_of_ble_eq_true rfl, Nat.le_of_ble_eq_true rfl⟩ dX11_answer_60 rfl (fun H locs G => ?_)
        refine lv_aload_n hx hb dX11_answer_63 rfl (lv_at hl 0 rfl) ?_
        refine gf_X11_19 C G kd_0 (n' := 3) rfl dX11_answer_64 ?_
        refine gf_X11_92 C G kd_3 (n' := 11) rfl dX11_answer_67 ?_
        refine gf_X11_179 C G kd_11 (n' := 12) rfl dX11_answer_70 ?_
        refine lv_iload_n hx hb dX11_answer_73 rfl (lv_at hl 1 rfl) ?_
        obtain ⟨g_9, hs⟩ := gdE hs
        refine m_iald C G kd_12 ln_12 g_9 dX11_answer_74 ?_
        exact retI C G hs dX11_answer_75
      · replace hs := ifT c_6 hs
        refine m_ldc C wd_674 dX11_answer_37 ?_
        exact retI C G hs dX11_answer_39
    · replace hs := ifT c_4 hs
      exact wX11_answer_22 C   hs G (lv_sub hl [] rfl)
-- X11_refuseYears
def rmX11_refuseYears : Room := { frames := 0, cells := 0, slots := 0, locals := 0 }
def fX11_refuseYears_11 (σ : Sg) : Option (Int32 × Sg) :=
  some ((-1000000002), σ)
set_option maxRecDepth 100000 in
set_option maxHeartbeats 4000000 in
theorem wX11_refuseYears_11 {p : Program} {l : Launch} {e : Env} {s : State} {m : MethodId} {args : Array Value} {below : List Frame} {meth : Method} {c : Code} {D : va_G} {cI cZ cO : ClassId} {b : Nat} (C : Cx p s m args meth c cX11_refuseYears RX11 2 (some .int) D cI cZ cO) {Rr : (Int32 × Sg)} {σ : Sg} {H : Heap} {locs : List Loc} {ls : Array Slot} (hs : fX11_refuseYears_11 σ = some Rr) (G : Gd b D cI cZ cO σ s.heap H locs) (hl : lv_has ls 2 []) : W p l e rmX11_refuseYears s m args below meth c H locs 0 0 (MQ below (QI b D cI cZ cO Rr) args s 0 0 (fun q => b ≤ q)) (F0 m 11 ls []) := by
  have hx := C.1
  have hb := C.2.1
  unfold fX11_refuseYears_11 at hs
  refine m_ldc C wd_422 dX11_refuseYears_11 ?_
  exact retI C G hs dX11_refuseYears_13
def fX11_refuseYears (σ : Sg) (x1 : Int32) : Option (Int32 × Sg) :=
  (if x1 < 1 then fX11_refuseYears_11 σ else (if x1 ≤ 60 then gk 4 (dn (σ 3 0)) (fun n_3 => (if (σ n_3 0) = 0 then some ((-1000000003), σ) else (if (σ 11 2) ≤ 9000 then some (0, σ) else some ((-1000000004), σ)))) else fX11_refuseYears_11 σ))
set_option maxRecDepth 100000 in
set_option maxHeartbeats 4000000 in
theorem ctX11_refuseYears (l : Launch) {D : va_G} {cI cZ cO : ClassId} {b : Nat} {σ : Sg} {x1 : Int32} {Rr : (Int32 × Sg)} (hs : fX11_refuseYears σ x1 = some Rr) : MI l yX11_refuseYears cX11_refuseYears 2 (some .int) rmX11_refuseYears [.ref (b + 0), .int x1] b D cI cZ cO σ Rr := by
  unfold fX11_refuseYears at hs
  refine metI (by decide +kernel) (Nat.le_of_ble_eq_true rfl) (fun p e s m below meth c ls C G hl => ?_)
  have C : Cx p s m _ meth c cX11_refuseYears RX11 2 (some .int) D cI cZ cO := C
  have hx := C.1
  have hb := C.2.1
  have hl : lv_has ls 2 [(0, .ref (b + 0)), (1, .int x1)] := hl
  refine lv_iload_n hx hb dX11_refuseYears_0 rfl (lv_at hl 1 rfl) ?_
  refine lv_iconst (v := 1) hx hb dX11_refuseYears_1 (by decide) ?_
  refine lv_icmp_lt (tgt := 11) hx hb dX11_refuseYears_2 (by decide) (fun c_1 => ?_) (fun c_1 => ?_)
  · replace hs := ifT c_1 hs
    exact wX11_refuseYears_11 C   hs G (lv_sub hl [] rfl)
  · replace hs := ifF c_1 hs
    refine lv_iload_n hx hb dX11_refuseYears_5 rfl (lv_at hl 1 rfl) ?_
    refine lv_bipush (v := 60) hx hb dX11_refuseYears_6 (by decide) ?_
    refine lv_icmp_le (tgt := 14) hx hb dX11_refuseYears_8 (by decide) (fun c_2 => ?_) (fun c_2 => ?_)
    · replace hs := ifT c_2 hs
      refine lv_aload_n hx hb dX11_refuseYears_14 rfl (lv_at hl 0 rfl) ?_
      refine gf_X11_19 C G kd_0 (n' := 3) rfl dX11_refuseYears_15 ?_
      obtain ⟨n_3, en_3, hk_3, hs⟩ := gkE hs
      refine gf_X11_89 C G kd_3 en_3 dX11_refuseYears_18 ?_
      refine gf_X11_275 C G hk_3 dX11_refuseYears_21 ?_
      refine lv_if_ne (tgt := 30) hx hb dX11_refuseYears_24 (by decide) (fun c_4 => ?_) (fun c_4 => ?_)
      · replace hs := ifF c_4 hs
        refine lv_aload_n hx hb dX11_refuseYears_30 rfl (lv_at hl 0 rfl) ?_
        refine gf_X11_19 C G kd_0 (n' := 3) rfl dX11_refuseYears_31 ?_
        refine gf_X11_92 C G kd_3 (n' := 11) rfl dX11_refuseYears_34 ?_
        refine gf_X11_124 C G kd_11 dX11_refuseYears_37 ?_
        refine lv_sipush (v := 9000) hx hb dX11_refuseYears_40 (by decide) ?_
        refine lv_icmp_le (tgt := 51) hx hb dX11_refuseYears_43 (by decide) (fun c_5 => ?_) (fun c_5 => ?_)
        · replace hs := ifT c_5 hs
          refine lv_iconst (v := 0) hx hb dX11_refuseYears_51 (by decide) ?_
          exact retI C G hs dX11_refuseYears_52
        · replace hs := ifF c_5 hs
          refine m_ldc C wd_423 dX11_refuseYears_46 ?_
          refine lv_goto (tgt := 52) hx hb dX11_refuseYears_48 (by decide) ?_
          exact retI C G hs dX11_refuseYears_52
      · replace hs := ifT c_4 hs
        refine m_ldc C wd_674 dX11_refuseYears_27 ?_
        exact retI C G hs dX11_refuseYears_29
    · replace hs := ifF c_2 hs
      exact wX11_refuseYears_11 C   hs G (lv_sub hl [] rfl)
-- X11_year
def rmX11_year : Room := { frames := 4, cells := 0, slots := 0, locals := 99 }
def fX11_year_28b (kh : Sg → Int32 → Int32 → Option (Int32 × Sg)) (kx : Sg → Option (Int32 × Sg)) (σ : Sg) (x1 : Int32) (x3 : Int32) : Option (Int32 × Sg) :=
  (if x1 ≤ x3 then kx σ else bv (fX2_passYear σ) (fun σ_5 => lt (x3 + 1) (fun x3_6 => kh σ_5 x1 x3_6)))
set_option maxRecDepth 100000 in
set_option maxHeartbeats 4000000 in
theorem wX11_year_28b {p : Program} {l : Launch} {e : Env} {s : State} {m : MethodId} {args : Array Value} {below : List Frame} {meth : Method} {c : Code} {D : va_G} {cI cZ cO : ClassId} {b : Nat} (C : Cx p s m args meth c cX11_year RX11 4 (some .int) D cI cZ cO) {Rr : (Int32 × Sg)} {kh : Sg → Int32 → Int32 → Option (Int32 × Sg)} {kx : Sg → Option (Int32 × Sg)} (hh : ∀ (σ : Sg) (x1 : Int32) (x3 : Int32) (H : Heap) (locs : List Loc) (ls : Array Slot), kh σ x1 x3 = some Rr → Gd b D cI cZ cO σ s.heap H locs → lv_has ls 4 [(0, .ref (b + 0)), (1, .int x1), (3, .int x3)] → W p l e rmX11_year s m args below meth c H locs 0 0 (MQ below (QI b D cI cZ cO Rr) args s 0 0 (fun q => b ≤ q)) (F0 m 28 ls [])) (hxx : ∀ (σ : Sg) (H : Heap) (locs : List Loc) (ls : Array Slot), kx σ = some Rr → Gd b D cI cZ cO σ s.heap H locs → lv_has ls 4 [(0, .ref (b + 0))] → W p l e rmX11_year s m args below meth c H locs 0 0 (MQ below (QI b D cI cZ cO Rr) args s 0 0 (fun q => b ≤ q)) (F0 m 46 ls [])) {σ : Sg} {x1 : Int32} {x3 : Int32} {H : Heap} {locs : List Loc} {ls : Array Slot} (hs : fX11_year_28b kh kx σ x1 x3 = some Rr) (G : Gd b D cI cZ cO σ s.heap H locs) (hl : lv_has ls 4 [(0, .ref (b + 0)), (1, .int x1), (3, .int x3)]) : W p l e rmX11_year s m args below meth c H locs 0 0 (MQ below (QI b D cI cZ cO Rr) args s 0 0 (fun q => b ≤ q)) (F0 m 28 ls []) := by
  have hx := C.1
  have hb := C.2.1
  unfold fX11_year_28b at hs
  refine lv_iload_n hx hb dX11_year_28 rfl (lv_at hl 2 rfl) ?_
  refine lv_iload_n hx hb dX11_year_29 rfl (lv_at hl 1 rfl) ?_
  refine lv_icmp_ge (tgt := 46) hx hb dX11_year_30 (by decide) (fun c_4 => ?_) (fun c_4 => ?_)
  · replace hs := ifT c_4 hs
    exact hxx _ _ _ _ hs G (lv_sub hl [0] rfl)
  · replace hs := ifF c_4 hs
    refine lv_aload_n hx hb dX11_year_33 rfl (lv_at hl 0 rfl) ?_
    refine gf_X11_19 C G kd_0 (n' := 3) rfl dX11_year_34 ?_
    obtain ⟨σ_5, hc, hs⟩ := bvE hs
    refine callVV (ar := 0) (As := []) (rest := []) C G hl.1 (ctX2_passYear _  hc) ⟨wd_688, wd_689, wd_690, wd_71, wd_691⟩ (by decide +kernel) rfl ⟨rfl, rfl⟩ ⟨Nat.le_of_ble_eq_true rfl, Nat.le_of_ble_eq_true rfl⟩ (kd_lt kd_3 (by decide)) (ent_2 b cI cZ cO _ kd_3) rfl (Nat.le_of_ble_eq_true rfl) ⟨Nat.le_of_ble_eq_true rfl, Nat.le_of_ble_eq_true rfl⟩ dX11_year_37 rfl (fun H locs G => ?_)
    obtain ⟨x3_6, e_6, hs⟩ := ltE hs
    refine lv_iinc (v := x3_6) (lv' := [(3, .int x3_6), (0, .ref (b + 0)), (1, .int x1)]) hx hb dX11_year_40 hl (k := 2) rfl (by rw [e_6]; rfl) (by decide) rfl (fun ls hl => ?_)
    refine lv_goto (tgt := 28) hx hb dX11_year_43 (by decide) ?_
    exact hh _ _ _ _ _ _ hs G (lv_sub hl [1, 2, 0] rfl)
def fX11_year_28 : Nat → (Sg → Option (Int32 × Sg)) → Sg → Int32 → Int32 → Option (Int32 × Sg)
  | 0, _, _, _, _ => none
  | fu + 1, kx, σ, x1, x3 => fX11_year_28b (fX11_year_28 fu kx) kx σ x1 x3
theorem fX11_year_28_s (fu : Nat) (kx : Sg → Option (Int32 × Sg)) (σ : Sg) (x1 : Int32) (x3 : Int32) : fX11_year_28 (fu + 1) kx σ x1 x3 = fX11_year_28b (fX11_year_28 fu kx) kx σ x1 x3 := by rw [fX11_year_28]
theorem wX11_year_28 {p : Program} {l : Launch} {e : Env} {s : State} {m : MethodId} {args : Array Value} {below : List Frame} {meth : Method} {c : Code} {D : va_G} {cI cZ cO : ClassId} {b : Nat} (C : Cx p s m args meth c cX11_year RX11 4 (some .int) D cI cZ cO) {Rr : (Int32 × Sg)} {kx : Sg → Option (Int32 × Sg)} (hxx : ∀ (σ : Sg) (H : Heap) (locs : List Loc) (ls : Array Slot), kx σ = some Rr → Gd b D cI cZ cO σ s.heap H locs → lv_has ls 4 [(0, .ref (b + 0))] → W p l e rmX11_year s m args below meth c H locs 0 0 (MQ below (QI b D cI cZ cO Rr) args s 0 0 (fun q => b ≤ q)) (F0 m 46 ls [])) : ∀ (fu : Nat) (σ : Sg) (x1 : Int32) (x3 : Int32) (H : Heap) (locs : List Loc) (ls : Array Slot), fX11_year_28 fu kx σ x1 x3 = some Rr → Gd b D cI cZ cO σ s.heap H locs → lv_has ls 4 [(0, .ref (b + 0)), (1, .int x1), (3, .int x3)] → W p l e rmX11_year s m args below meth c H locs 0 0 (MQ below (QI b D cI cZ cO Rr) args s 0 0 (fun q => b ≤ q)) (F0 m 28 ls []) := by
  intro fu
  induction fu with
  | zero => intro σ x1 x3 H locs ls hs; cases hs
  | succ fu ih =>
    intro σ x1 x3 H locs ls hs G hl
    exact wX11_year_28b C (fun σ x1 x3 H locs ls hs G hl => ih σ x1 x3 H locs ls hs G hl) hxx hs G hl
def fX11_year (σ : Sg) (x1 : Int32) : Option (Int32 × Sg) :=
  bi (fX11_refuseYears σ x1) (fun r_1 σ_1 => (if r_1 = 0 then bv (fX7_remember 11 σ_1) (fun σ_3 => fX11_year_28 FU (fun σ_7 => some ((σ_7 11 1), σ_7)) σ_3 x1 0) else some (r_1, σ_1)))
set_option maxRecDepth 100000 in
set_option maxHeartbeats 4000000 in
theorem ctX11_year (l : Launch) {D : va_G} {cI cZ cO : ClassId} {b : Nat} {σ : Sg} {x1 : Int32} {Rr : (Int32 × Sg)} (hs : fX11_year σ x1 = some Rr) : MI l yX11_year cX11_year 4 (some .int) rmX11_year [.ref (b + 0), .int x1] b D cI cZ cO σ Rr := by
  unfold fX11_year at hs
  refine metI (by decide +kernel) (Nat.le_of_ble_eq_true rfl) (fun p e s m below meth c ls C G hl => ?_)
  have C : Cx p s m _ meth c cX11_year RX11 4 (some .int) D cI cZ cO := C
  have hx := C.1
  have hb := C.2.1
  have hl : lv_has ls 4 [(0, .ref (b + 0)), (1, .int x1)] := hl
  refine lv_aload_n hx hb dX11_year_0 rfl (lv_at hl 0 rfl) ?_
  refine lv_iload_n hx hb dX11_year_1 rfl (lv_at hl 1 rfl) ?_
  obtain ⟨r_1, σ_1, hc, hs⟩ := biE hs
  refine callVI (ar := 1) (As := [.int x1]) (rest := []) C G hl.1 (ctX11_refuseYears _  hc) ⟨wd_684, wd_686, wd_15, wd_69, wd_687⟩ (by decide +kernel) rfl ⟨rfl, rfl⟩ ⟨Nat.le_of_ble_eq_true rfl, Nat.le_of_ble_eq_true rfl⟩ (kd_lt kd_0 (by decide)) (ent_11 b cI cZ cO _ kd_0) rfl (Nat.le_of_ble_eq_true rfl) ⟨Nat.le_of_ble_eq_true rfl, Nat.le_of_ble_eq_true rfl⟩ dX11_year_2 rfl (fun H locs G => ?_)
  refine lv_istore_n (lv' := [(2, .int r_1), (0, .ref (b + 0)), (1, .int x1)]) hx hb dX11_year_5 rfl hl (by decide) rfl (fun ls hl => ?_)
  refine lv_iload_n hx hb dX11_year_6 rfl (lv_at hl 0 rfl) ?_
  refine lv_if_eq (tgt := 12) hx hb dX11_year_7 (by decide) (fun c_2 => ?_) (fun c_2 => ?_)
  · replace hs := ifT c_2 hs
    refine lv_aload_n hx hb dX11_year_12 rfl (lv_at hl 1 rfl) ?_
    refine gf_X11_26 C G kd_0 (n' := 17) rfl dX11_year_13 ?_
    refine lv_aload_n hx hb dX11_year_16 rfl (lv_at hl 1 rfl) ?_
    refine gf_X11_19 C G kd_0 (n' := 3) rfl dX11_year_17 ?_
    refine gf_X11_92 C G kd_3 (n' := 11) rfl dX11_year_20 ?_
    obtain ⟨σ_3, hc, hs⟩ := bvE hs
    refine callVV (ar := 1) (As := [.ref (b + 11)]) (rest := []) C G hl.1 (ctX7_remember _ kd_11 hc) ⟨wd_650, wd_651, wd_652, wd_75, wd_653⟩ (by decide +kernel) rfl ⟨rfl, rfl⟩ ⟨Nat.le_of_ble_eq_true rfl, Nat.le_of_ble_eq_true rfl⟩ (kd_lt kd_17 (by decide)) (ent_7 b cI cZ cO _ kd_17) rfl (Nat.le_of_ble_eq_true rfl) ⟨Nat.le_of_ble_eq_true rfl, Nat.le_of_ble_eq_true rfl⟩ dX11_year_23 rfl (fun H locs G => ?_)
    refine lv_iconst (v := 0) hx hb dX11_year_26 (by decide) ?_
    refine lv_istore_n (lv' := [(3, .int 0), (2, .int r_1), (0, .ref (b + 0)), (1, .int x1)]) hx hb dX11_year_27 rfl hl (by decide) rfl (fun ls hl => ?_)
    refine wX11_year_28 C (fun σ_7 H locs ls hs G hl => ?_) FU _ _ _ _ _ _ hs G (lv_sub hl [2, 3, 0] rfl)
    refine lv_aload_n hx hb dX11_year_46 rfl (lv_at hl 0 rfl) ?_
    refine gf_X11_19 C G kd_0 (n' := 3) rfl dX11_year_47 ?_
    refine gf_X11_92 C G kd_3 (n' := 11) rfl dX11_year_50 ?_
    refine gf_X11_127 C G kd_11 dX11_year_53 ?_
    exact retI C G hs dX11_year_56
  · replace hs := ifF c_2 hs
    refine lv_iload_n hx hb dX11_year_10 rfl (lv_at hl 0 rfl) ?_
    exact retI C G hs dX11_year_11
-- X11_wit
def rmX11_wit : Room := { frames := 3, cells := 0, slots := 0, locals := 72 }
def fX11_wit_25 (σ : Sg) : Option (Int32 × Sg) :=
  some ((-1000000002), σ)
set_option maxRecDepth 100000 in
set_option maxHeartbeats 4000000 in
theorem wX11_wit_25 {p : Program} {l : Launch} {e : Env} {s : State} {m : MethodId} {args : Array Value} {below : List Frame} {meth : Method} {c : Code} {D : va_G} {cI cZ cO : ClassId} {b : Nat} (C : Cx p s m args meth c cX11_wit RX11 4 (some .int) D cI cZ cO) {Rr : (Int32 × Sg)} {σ : Sg} {H : Heap} {locs : List Loc} {ls : Array Slot} (hs : fX11_wit_25 σ = some Rr) (G : Gd b D cI cZ cO σ s.heap H locs) (hl : lv_has ls 4 []) : W p l e rmX11_wit s m args below meth c H locs 0 0 (MQ below (QI b D cI cZ cO Rr) args s 0 0 (fun q => b ≤ q)) (F0 m 25 ls []) := by
  have hx := C.1
  have hb := C.2.1
  unfold fX11_wit_25 at hs
  refine m_ldc C wd_422 dX11_wit_25 ?_
  exact retI C G hs dX11_wit_27
def fX11_wit (σ : Sg) (x1 : Int32) (x2 : Int32) : Option (Int32 × Sg) :=
  bi (fX2_isPerson σ x1) (fun r_1 σ_1 => (if r_1 = 0 then some ((-1000000001), σ_1) else (if x2 < 1 then fX11_wit_25 σ_1 else (if x2 ≤ 9 then bv (fX7_remember 11 σ_1) (fun σ_5 => (if inb x1 7 then lt (σ_5 14 x1.toNatClampNeg) (fun x3_7 => (if inb x1 7 then lt (st σ_5 14 x1.toNatClampNeg x2) (fun σ_8 => some (x3_7, σ_8)) else none)) else none)) else fX11_wit_25 σ_1))))
set_option maxRecDepth 100000 in
set_option maxHeartbeats 4000000 in
theorem ctX11_wit (l : Launch) {D : va_G} {cI cZ cO : ClassId} {b : Nat} {σ : Sg} {x1 : Int32} {x2 : Int32} {Rr : (Int32 × Sg)} (hs : fX11_wit σ x1 x2 = some Rr) : MI l yX11_wit cX11_wit 4 (some .int) rmX11_wit [.ref (b + 0), .int x1, .int x2] b D cI cZ cO σ Rr := by
  unfold fX11_wit at hs
  refine metI (by decide +kernel) (Nat.le_of_ble_eq_true rfl) (fun p e s m below meth c ls C G hl => ?_)
  have C : Cx p s m _ meth c cX11_wit RX11 4 (some .int) D cI cZ cO := C
  have hx := C.1
  have hb := C.2.1
  have hl : lv_has ls 4 [(0, .ref (b + 0)), (1, .int x1), (2, .int x2)] := hl
  refine lv_aload_n hx hb dX11_wit_0 rfl (lv_at hl 0 rfl) ?_
  refine gf_X11_19 C G kd_0 (n' := 3) rfl dX11_wit_1 ?_
  refine lv_iload_n hx hb dX11_wit_4 rfl (lv_at hl 1 rfl) ?_
  obtain ⟨r_1, σ_1, hc, hs⟩ := biE hs
  refine callVI (ar := 1) (As := [.int x1]) (rest := []) C G hl.1 (ctX2_isPerson _  hc) ⟨wd_589, wd_590, wd_591, wd_71, wd_592⟩ (by decide +kernel) rfl ⟨rfl, rfl⟩ ⟨Nat.le_of_ble_eq_true rfl, Nat.le_of_ble_eq_true rfl⟩ (kd_lt kd_3 (by decide)) (ent_2 b cI cZ cO _ kd_3) rfl (Nat.le_of_ble_eq_true rfl) ⟨Nat.le_of_ble_eq_true rfl, Nat.le_of_ble_eq_true rfl⟩ dX11_wit_5 rfl (fun H locs G => ?_)
  refine lv_if_ne (tgt := 14) hx hb dX11_wit_8 (by decide) (fun c_2 => ?_) (fun c_2 => ?_)
  · replace hs := ifF c_2 hs
    refine lv_iload_n hx hb dX11_wit_14 rfl (lv_at hl 2 rfl) ?_
    refine lv_iconst (v := 1) hx hb dX11_wit_15 (by decide) ?_
    refine lv_icmp_lt (tgt := 25) hx hb dX11_wit_16 (by decide) (fun c_3 => ?_) (fun c_3 => ?_)
    · replace hs := ifT c_3 hs
      exact wX11_wit_25 C   hs G (lv_sub hl [] rfl)
    · replace hs := ifF c_3 hs
      refine lv_iload_n hx hb dX11_wit_19 rfl (lv_at hl 2 rfl) ?_
      refine lv_bipush (v := 9) hx hb dX11_wit_20 (by decide) ?_
      refine lv_icmp_le (tgt := 28) hx hb dX11_wit_22 (by decide) (fun c_4 => ?_) (fun c_4 => ?_)
      · replace hs := ifT c_4 hs
        refine lv_aload_n hx hb dX11_wit_28 rfl (lv_at hl 0 rfl) ?_
        refine gf_X11_26 C G kd_0 (n' := 17) rfl dX11_wit_29 ?_
        refine lv_aload_n hx hb dX11_wit_32 rfl (lv_at hl 0 rfl) ?_
        refine gf_X11_19 C G kd_0 (n' := 3) rfl dX11_wit_33 ?_
        refine gf_X11_92 C G kd_3 (n' := 11) rfl dX11_wit_36 ?_
        obtain ⟨σ_5, hc, hs⟩ := bvE hs
        refine callVV (ar := 1) (As := [.ref (b + 11)]) (rest := []) C G hl.1 (ctX7_remember _ kd_11 hc) ⟨wd_650, wd_651, wd_652, wd_75, wd_653⟩ (by decide +kernel) rfl ⟨rfl, rfl⟩ ⟨Nat.le_of_ble_eq_true rfl, Nat.le_of_ble_eq_true rfl⟩ (kd_lt kd_17 (by decide)) (ent_7 b cI cZ cO _ kd_17) rfl (Nat.le_of_ble_eq_true rfl) ⟨Nat.le_of_ble_eq_true rfl, Nat.le_of_ble_eq_true rfl⟩ dX11_wit_39 rfl (fun H locs G => ?_)
        refine lv_aload_n hx hb dX11_wit_42 rfl (lv_at hl 0 rfl) ?_
        refine gf_X11_19 C G kd_0 (n' := 3) rfl dX11_wit_43 ?_
        refine gf_X11_92 C G kd_3 (n' := 11) rfl dX11_wit_46 ?_
        refine gf_X11_173 C G kd_11 (n' := 14) rfl dX11_wit_49 ?_
        refine lv_iload_n hx hb dX11_wit_52 rfl (lv_at hl 1 rfl) ?_
        obtain ⟨g_6, hs⟩ := gdE hs
        refine m_iald C G kd_14 ln_14 g_6 dX11_wit_53 ?_
        refine topI hs (fun x3_7 hs => ?_)
        refine lv_istore_n (lv' := [(3, .int x3_7), (0, .ref (b + 0)), (1, .int x1), (2, .int x2)]) hx hb dX11_wit_54 rfl hl (by decide) rfl (fun ls hl => ?_)
        refine lv_aload_n hx hb dX11_wit_55 rfl (lv_at hl 1 rfl) ?_
        refine gf_X11_19 C G kd_0 (n' := 3) rfl dX11_wit_56 ?_
        refine gf_X11_92 C G kd_3 (n' := 11) rfl dX11_wit_59 ?_
        refine gf_X11_173 C G kd_11 (n' := 14) rfl dX11_wit_62 ?_
        refine lv_iload_n hx hb dX11_wit_65 rfl (lv_at hl 2 rfl) ?_
        refine lv_iload_n hx hb dX11_wit_66 rfl (lv_at hl 3 rfl) ?_
        obtain ⟨g_8, hs⟩ := gdE hs
        refine m_iast C G kd_14 ln_14 g_8 hs dX11_wit_67 (fun σ_8 H locs hs G => ?_)
        refine lv_iload_n hx hb dX11_wit_68 rfl (lv_at hl 0 rfl) ?_
        exact retI C G hs dX11_wit_69
      · replace hs := ifF c_4 hs
        exact wX11_wit_25 C   hs G (lv_sub hl [] rfl)
  · replace hs := ifT c_2 hs
    refine m_ldc C wd_593 dX11_wit_11 ?_
    exact retI C G hs dX11_wit_13
-- X11_bear
def rmX11_bear : Room := { frames := 3, cells := 0, slots := 0, locals := 72 }
def fX11_bear_24 (σ : Sg) : Option (Int32 × Sg) :=
  some ((-1000000002), σ)
set_option maxRecDepth 100000 in
set_option maxHeartbeats 4000000 in
theorem wX11_bear_24 {p : Program} {l : Launch} {e : Env} {s : State} {m : MethodId} {args : Array Value} {below : List Frame} {meth : Method} {c : Code} {D : va_G} {cI cZ cO : ClassId} {b : Nat} (C : Cx p s m args meth c cX11_bear RX11 4 (some .int) D cI cZ cO) {Rr : (Int32 × Sg)} {σ : Sg} {H : Heap} {locs : List Loc} {ls : Array Slot} (hs : fX11_bear_24 σ = some Rr) (G : Gd b D cI cZ cO σ s.heap H locs) (hl : lv_has ls 4 []) : W p l e rmX11_bear s m args below meth c H locs 0 0 (MQ below (QI b D cI cZ cO Rr) args s 0 0 (fun q => b ≤ q)) (F0 m 24 ls []) := by
  have hx := C.1
  have hb := C.2.1
  unfold fX11_bear_24 at hs
  refine m_ldc C wd_422 dX11_bear_24 ?_
  exact retI C G hs dX11_bear_26
def fX11_bear (σ : Sg) (x1 : Int32) (x2 : Int32) : Option (Int32 × Sg) :=
  bi (fX2_isVillage σ x1) (fun r_1 σ_1 => (if r_1 = 0 then some ((-1000000001), σ_1) else (if x2 < 0 then fX11_bear_24 σ_1 else (if x2 ≤ 99 then bv (fX7_remember 11 σ_1) (fun σ_5 => (if inb x1 4 then lt (σ_5 15 x1.toNatClampNeg) (fun x3_7 => (if inb x1 4 then lt (st σ_5 15 x1.toNatClampNeg x2) (fun σ_8 => some (x3_7, σ_8)) else none)) else none)) else fX11_bear_24 σ_1))))
set_option maxRecDepth 100000 in
set_option maxHeartbeats 4000000 in
theorem ctX11_bear (l : Launch) {D : va_G} {cI cZ cO : ClassId} {b : Nat} {σ : Sg} {x1 : Int32} {x2 : Int32} {Rr : (Int32 × Sg)} (hs : fX11_bear σ x1 x2 = some Rr) : MI l yX11_bear cX11_bear 4 (some .int) rmX11_bear [.ref (b + 0), .int x1, .int x2] b D cI cZ cO σ Rr := by
  unfold fX11_bear at hs
  refine metI (by decide +kernel) (Nat.le_of_ble_eq_true rfl) (fun p e s m below meth c ls C G hl => ?_)
  have C : Cx p s m _ meth c cX11_bear RX11 4 (some .int) D cI cZ cO := C
  have hx := C.1
  have hb := C.2.1
  have hl : lv_has ls 4 [(0, .ref (b + 0)), (1, .int x1), (2, .int x2)] := hl
  refine lv_aload_n hx hb dX11_bear_0 rfl (lv_at hl 0 rfl) ?_
  refine gf_X11_19 C G kd_0 (n' := 3) rfl dX11_bear_1 ?_
  refine lv_iload_n hx hb dX11_bear_4 rfl (lv_at hl 1 rfl) ?_
  obtain ⟨r_1, σ_1, hc, hs⟩ := biE hs
  refine callVI (ar := 1) (As := [.int x1]) (rest := []) C G hl.1 (ctX2_isVillage _  hc) ⟨wd_629, wd_630, wd_631, wd_71, wd_632⟩ (by decide +kernel) rfl ⟨rfl, rfl⟩ ⟨Nat.le_of_ble_eq_true rfl, Nat.le_of_ble_eq_true rfl⟩ (kd_lt kd_3 (by decide)) (ent_2 b cI cZ cO _ kd_3) rfl (Nat.le_of_ble_eq_true rfl) ⟨Nat.le_of_ble_eq_true rfl, Nat.le_of_ble_eq_true rfl⟩ dX11_bear_5 rfl (fun H locs G => ?_)
  refine lv_if_ne (tgt := 14) hx hb dX11_bear_8 (by decide) (fun c_2 => ?_) (fun c_2 => ?_)
  · replace hs := ifF c_2 hs
    refine lv_iload_n hx hb dX11_bear_14 rfl (lv_at hl 2 rfl) ?_
    refine lv_if_lt (tgt := 24) hx hb dX11_bear_15 (by decide) (fun c_3 => ?_) (fun c_3 => ?_)
    · replace hs := ifT c_3 hs
      exact wX11_bear_24 C   hs G (lv_sub hl [] rfl)
    · replace hs := ifF c_3 hs
      refine lv_iload_n hx hb dX11_bear_18 rfl (lv_at hl 2 rfl) ?_
      refine lv_bipush (v := 99) hx hb dX11_bear_19 (by decide) ?_
      refine lv_icmp_le (tgt := 27) hx hb dX11_bear_21 (by decide) (fun c_4 => ?_) (fun c_4 => ?_)
      · replace hs := ifT c_4 hs
        refine lv_aload_n hx hb dX11_bear_27 rfl (lv_at hl 0 rfl) ?_
        refine gf_X11_26 C G kd_0 (n' := 17) rfl dX11_bear_28 ?_
        refine lv_aload_n hx hb dX11_bear_31 rfl (lv_at hl 0 rfl) ?_
        refine gf_X11_19 C G kd_0 (n' := 3) rfl dX11_bear_32 ?_
        refine gf_X11_92 C G kd_3 (n' := 11) rfl dX11_bear_35 ?_
        obtain ⟨σ_5, hc, hs⟩ := bvE hs
        refine callVV (ar := 1) (As := [.ref (b + 11)]) (rest := []) C G hl.1 (ctX7_remember _ kd_11 hc) ⟨wd_650, wd_651, wd_652, wd_75, wd_653⟩ (by decide +kernel) rfl ⟨rfl, rfl⟩ ⟨Nat.le_of_ble_eq_true rfl, Nat.le_of_ble_eq_true rfl⟩ (kd_lt kd_17 (by decide)) (ent_7 b cI cZ cO _ kd_17) rfl (Nat.le_of_ble_eq_true rfl) ⟨Nat.le_of_ble_eq_true rfl, Nat.le_of_ble_eq_true rfl⟩ dX11_bear_38 rfl (fun H locs G => ?_)
        refine lv_aload_n hx hb dX11_bear_41 rfl (lv_at hl 0 rfl) ?_
        refine gf_X11_19 C G kd_0 (n' := 3) rfl dX11_bear_42 ?_
        refine gf_X11_92 C G kd_3 (n' := 11) rfl dX11_bear_45 ?_
        refine gf_X11_198 C G kd_11 (n' := 15) rfl dX11_bear_48 ?_
        refine lv_iload_n hx hb dX11_bear_51 rfl (lv_at hl 1 rfl) ?_
        obtain ⟨g_6, hs⟩ := gdE hs
        refine m_iald C G kd_15 ln_15 g_6 dX11_bear_52 ?_
        refine topI hs (fun x3_7 hs => ?_)
        refine lv_istore_n (lv' := [(3, .int x3_7), (0, .ref (b + 0)), (1, .int x1), (2, .int x2)]) hx hb dX11_bear_53 rfl hl (by decide) rfl (fun ls hl => ?_)
        refine lv_aload_n hx hb dX11_bear_54 rfl (lv_at hl 1 rfl) ?_
        refine gf_X11_19 C G kd_0 (n' := 3) rfl dX11_bear_55 ?_
        refine gf_X11_92 C G kd_3 (n' := 11) rfl dX11_bear_58 ?_
        refine gf_X11_198 C G kd_11 (n' := 15) rfl dX11_bear_61 ?_
        refine lv_iload_n hx hb dX11_bear_64 rfl (lv_at hl 2 rfl) ?_
        refine lv_iload_n hx hb dX11_bear_65 rfl (lv_at hl 3 rfl) ?_
        obtain ⟨g_8, hs⟩ := gdE hs
        refine m_iast C G kd_15 ln_15 g_8 hs dX11_bear_66 (fun σ_8 H locs hs G => ?_)
        refine lv_iload_n hx hb dX11_bear_67 rfl (lv_at hl 0 rfl) ?_
        exact retI C G hs dX11_bear_68
      · replace hs := ifF c_4 hs
        exact wX11_bear_24 C   hs G (lv_sub hl [] rfl)
  · replace hs := ifT c_2 hs
    refine m_ldc C wd_593 dX11_bear_11 ?_
    exact retI C G hs dX11_bear_13
