abbrev wl_MD_planned : List Cond := .code ⟨"PlaceMovesModel", "planned", "(IIII)I"⟩ prog_9_method_38_code 7 (some FieldType.int) :: WG
set_option maxHeartbeats 4000000 in
set_option maxRecDepth 100000 in
theorem c_MD_planned (l : Launch) (G : va_G) (ad : Nat → Nat) (cI cZ : ClassId) (hD : DR ad) (σ : Sg) (a1 : Int32) (a2 : Int32) (a3 : Int32) (a4 : Int32) (out : Int32 × Sg) (h : f_MD_planned σ a1 a2 a3 a4 = some out) : Met l ⟨"PlaceMovesModel", "planned", "(IIII)I"⟩ wl_MD_planned ({ frames := 4, cells := 0, slots := 0, locals := 97 } : Room) (PcR G ad cI cZ σ [.ref (ad 0), .int a1, .int a2, .int a3, .int a4]) (QRi G ad cI cZ out) 0 0 (AR ad) := by
  refine Met.ofW (cc := prog_9_method_38_code) (maxL := 7) (ret := (some FieldType.int)) (by decide) rfl ?_
  intro p e s m args below meth c s₁ B hml hv
  obtain ⟨rfl, hP, hK⟩ := hv
  have hx := B.exec
  have hb := B.bytes
  have hr := B.returns
  have hts0 := atoms_spec (ws := wl_MD_planned) B.pre
  have hts : ∀ w ∈ WG, w.before _ s = true := fun w hw => hts0 w (List.mem_cons_of_mem _ hw)
  have hown : s.vm.findClass "PlaceMovesModel" = some m.cls := findClass_of_methodNamed B.named
  have hlocks := B.notSynchronized
  have C : CX "PlaceMovesModel" prog_9_method_38_code p s m _ c G cI cZ := ⟨hx, hb, hown, hts, hK⟩
  have hl := lv_entry ([.ref (ad 0), .int a1, .int a2, .int a3, .int a4]) (n := 7) (Nat.le_of_ble_eq_true rfl)
  rw [lg_entry_eq]
  generalize (lg_sl ([.ref (ad 0), .int a1, .int a2, .int a3, .int a4]) ++ List.replicate (7 - (lg_sl ([.ref (ad 0), .int a1, .int a2, .int a3, .int a4])).length) Slot.unset).toArray = ls at hl ⊢
  have hl : lv_has ls 7 [(0, .ref (ad 0)), (1, .int a1), (2, .int a2), (3, .int a3), (4, .int a4)] := hl
  unfold f_MD_planned at h
  have hW : WR G ad cI cZ s σ s.heap [] := ⟨hP, va_S.rf⟩
  refine lv_aload_n hx hb d_MD_planned_0 rfl (lv_at hl 0 rfl) ?_
  refine lv_aload_n hx hb d_MD_planned_1 rfl (lv_at hl 0 rfl) ?_
  refine lv_iload_n hx hb d_MD_planned_2 rfl (lv_at hl 1 rfl) ?_
  obtain ⟨r1, g_r1, h⟩ := ob_some h
  refine cl_MD_110 (rest := [.ref (ad 0)]) C (hml.trans hl.1.symm) hW.1 g_r1 ⟨Nat.le_of_ble_eq_true rfl, Nat.le_of_ble_eq_true rfl⟩ (Nat.le_of_ble_eq_true rfl) d_MD_planned_3 ⟨Nat.zero_le _, Nat.zero_le _⟩ ?_
  refine lv_if_eq (tgt := 21) hx hb d_MD_planned_6 (by decide) (fun c2 => ?_) (fun c2 => ?_)
  · rw [if_pos c2] at h
    refine lv_iconst (v := 0) hx hb d_MD_planned_21 (by decide) ?_
    have k22 : ∀ (x1 : Int32) (x2 : Int32) (x3 : Int32) (x4 : Int32) (s0 : Int32) (σ : Sg) (h : C_MD_planned_22 x1 x2 x3 x4 s0 σ = some out) (H : Heap) (locs : List Loc) (hW : WR G ad cI cZ s σ H locs) (ls : Array Slot) (hl : lv_has ls 7 [(0, .ref (ad 0)), (1, .int x1), (2, .int x2), (3, .int x3), (4, .int x4)]), W p l e (headSpec wl_MD_planned ({ frames := 4, cells := 0, slots := 0, locals := 97 } : Room)).room s m (([.ref (ad 0), .int a1, .int a2, .int a3, .int a4] : List Value).toArray) below meth c H locs 0 0 (MQ below (QRi G ad cI cZ out) (([.ref (ad 0), .int a1, .int a2, .int a3, .int a4] : List Value).toArray) s 0 0 (AR ad)) (F0 m 22 ls [.int s0, .ref (ad 0)]) := by
      intro x1 x2 x3 x4 s0 σ h H locs hW ls hl
      unfold C_MD_planned_22 at h
      refine lv_iload_n hx hb d_MD_planned_22 rfl (lv_at hl 3 rfl) ?_
      refine lv_aload_n hx hb d_MD_planned_23 rfl (lv_at hl 0 rfl) ?_
      refine gf_MD_145 C hW.1 d_MD_planned_24 ?_
      refine lv_icmp_lt (tgt := 47) hx hb d_MD_planned_27 (by decide) (fun c323 => ?_) (fun c323 => ?_)
      · rw [if_pos c323] at h
        refine lv_iconst (v := 0) hx hb d_MD_planned_47 (by decide) ?_
        refine lv_aload_n hx hb d_MD_planned_48 rfl (lv_at hl 0 rfl) ?_
        refine gf_MD_123 C hW.1 d_MD_planned_49 ?_
        refine lv_bipush (v := 30) hx hb d_MD_planned_52 (by decide) ?_
        refine lv_icmp_ge (tgt := 61) hx hb d_MD_planned_54 (by decide) (fun c443 => ?_) (fun c443 => ?_)
        · rw [if_pos c443] at h
          refine lv_iconst (v := 0) hx hb d_MD_planned_61 (by decide) ?_
          have k62 : ∀ (x1 : Int32) (x2 : Int32) (x3 : Int32) (x4 : Int32) (s0 : Int32) (s1 : Int32) (s2 : Int32) (σ : Sg) (h : C_MD_planned_62 x1 x2 x3 x4 s0 s1 s2 σ = some out) (H : Heap) (locs : List Loc) (hW : WR G ad cI cZ s σ H locs) (ls : Array Slot) (hl : lv_has ls 7 [(0, .ref (ad 0)), (1, .int x1), (2, .int x2), (3, .int x3), (4, .int x4)]), W p l e (headSpec wl_MD_planned ({ frames := 4, cells := 0, slots := 0, locals := 97 } : Room)).room s m (([.ref (ad 0), .int a1, .int a2, .int a3, .int a4] : List Value).toArray) below meth c H locs 0 0 (MQ below (QRi G ad cI cZ out) (([.ref (ad 0), .int a1, .int a2, .int a3, .int a4] : List Value).toArray) s 0 0 (AR ad)) (F0 m 62 ls [.int s0, .int s1, .int s2, .ref (ad 0)]) := by
            intro x1 x2 x3 x4 s0 s1 s2 σ h H locs hW ls hl
            unfold C_MD_planned_62 at h
            obtain ⟨r463, g_r463, h⟩ := ob_some h
            refine cl_MD_102 (rest := []) C hD (hml.trans hl.1.symm) hW g_r463 ⟨Nat.le_of_ble_eq_true rfl, Nat.le_of_ble_eq_true rfl⟩ (Nat.le_of_ble_eq_true rfl) d_MD_planned_62 ⟨Nat.zero_le _, Nat.zero_le _⟩ (fun H locs hW => ?_)
            refine lv_if_ne (tgt := 70) hx hb d_MD_planned_65 (by decide) (fun c464 => ?_) (fun c464 => ?_)
            · rw [if_neg c464] at h
              refine lv_aload_n hx hb d_MD_planned_70 rfl (lv_at hl 0 rfl) ?_
              refine gf_MD_59 C hW.1 d_MD_planned_71 ?_
              refine lv_aload_n hx hb d_MD_planned_74 rfl (lv_at hl 0 rfl) ?_
              refine gf_MD_123 C hW.1 d_MD_planned_75 ?_
              refine lv_iload_n hx hb d_MD_planned_78 rfl (lv_at hl 1 rfl) ?_
              obtain ⟨hin, h⟩ := gd_some h
              refine asR_17 C hD hW hin d_MD_planned_79 (fun H locs hW => ?_)
              obtain ⟨σ465, e_σ465, h⟩ := lt1_some h
              rw [← e_σ465] at hW
              refine lv_aload_n hx hb d_MD_planned_80 rfl (lv_at hl 0 rfl) ?_
              refine gf_MD_62 C hW.1 d_MD_planned_81 ?_
              refine lv_aload_n hx hb d_MD_planned_84 rfl (lv_at hl 0 rfl) ?_
              refine gf_MD_123 C hW.1 d_MD_planned_85 ?_
              refine lv_iload_n hx hb d_MD_planned_88 rfl (lv_at hl 2 rfl) ?_
              obtain ⟨hin, h⟩ := gd_some h
              refine asR_18 C hD hW hin d_MD_planned_89 (fun H locs hW => ?_)
              obtain ⟨σ466, e_σ466, h⟩ := lt1_some h
              rw [← e_σ466] at hW
              refine lv_aload_n hx hb d_MD_planned_90 rfl (lv_at hl 0 rfl) ?_
              refine gf_MD_65 C hW.1 d_MD_planned_91 ?_
              refine lv_aload_n hx hb d_MD_planned_94 rfl (lv_at hl 0 rfl) ?_
              refine gf_MD_123 C hW.1 d_MD_planned_95 ?_
              refine lv_iload_n hx hb d_MD_planned_98 rfl (lv_at hl 3 rfl) ?_
              obtain ⟨hin, h⟩ := gd_some h
              refine asR_19 C hD hW hin d_MD_planned_99 (fun H locs hW => ?_)
              obtain ⟨σ467, e_σ467, h⟩ := lt1_some h
              rw [← e_σ467] at hW
              refine lv_aload_n hx hb d_MD_planned_100 rfl (lv_at hl 0 rfl) ?_
              refine gf_MD_68 C hW.1 d_MD_planned_101 ?_
              refine lv_aload_n hx hb d_MD_planned_104 rfl (lv_at hl 0 rfl) ?_
              refine gf_MD_123 C hW.1 d_MD_planned_105 ?_
              refine lv_iload hx hb d_MD_planned_108 (lv_at hl 4 rfl) ?_
              obtain ⟨hin, h⟩ := gd_some h
              refine asR_20 C hD hW hin d_MD_planned_110 (fun H locs hW => ?_)
              obtain ⟨σ468, e_σ468, h⟩ := lt1_some h
              rw [← e_σ468] at hW
              refine lv_aload_n hx hb d_MD_planned_111 rfl (lv_at hl 0 rfl) ?_
              refine lv_dup hx hb d_MD_planned_112 rfl ?_
              refine gf_MD_123 C hW.1 d_MD_planned_113 ?_
              refine lv_iconst (v := 1) hx hb d_MD_planned_116 (by decide) ?_
              refine lv_iadd hx hb d_MD_planned_117 ?_
              refine pf_MD_123 C hD hW d_MD_planned_118 (fun H locs hW => ?_)
              obtain ⟨σ469, e_σ469, h⟩ := lt1_some h
              rw [← e_σ469] at hW
              refine lv_aload_n hx hb d_MD_planned_121 rfl (lv_at hl 0 rfl) ?_
              refine lv_iload_n hx hb d_MD_planned_122 rfl (lv_at hl 2 rfl) ?_
              refine lv_iload_n hx hb d_MD_planned_123 rfl (lv_at hl 3 rfl) ?_
              obtain ⟨r470, g_r470, h⟩ := ob_some h
              refine cl_MD_139 (rest := []) C (hml.trans hl.1.symm) hW.1 g_r470 ⟨Nat.le_of_ble_eq_true rfl, Nat.le_of_ble_eq_true rfl⟩ (Nat.le_of_ble_eq_true rfl) d_MD_planned_124 ⟨Nat.zero_le _, Nat.zero_le _⟩ ?_
              refine lv_istore (lv' := [(5, .int r470), (0, .ref (ad 0)), (1, .int x1), (2, .int x2), (3, .int x3), (4, .int x4)]) hx hb d_MD_planned_127 hl (by decide) rfl (fun ls hl => ?_)
              refine lv_iconst (v := 0) hx hb d_MD_planned_129 (by decide) ?_
              refine lv_istore (lv' := [(6, .int 0), (5, .int r470), (0, .ref (ad 0)), (1, .int x1), (2, .int x2), (3, .int x3), (4, .int x4)]) hx hb d_MD_planned_130 hl (by decide) rfl (fun ls hl => ?_)
              have k132 : ∀ (n132 : Nat) (x2 : Int32) (x3 : Int32) (x4 : Int32) (x5 : Int32) (x6 : Int32) (σ : Sg) (h : L_MD_planned_132 n132 x2 x3 x4 x5 x6 σ = some out) (H : Heap) (locs : List Loc) (hW : WR G ad cI cZ s σ H locs) (ls : Array Slot) (hl : lv_has ls 7 [(0, .ref (ad 0)), (2, .int x2), (3, .int x3), (4, .int x4), (5, .int x5), (6, .int x6)]), W p l e (headSpec wl_MD_planned ({ frames := 4, cells := 0, slots := 0, locals := 97 } : Room)).room s m (([.ref (ad 0), .int a1, .int a2, .int a3, .int a4] : List Value).toArray) below meth c H locs 0 0 (MQ below (QRi G ad cI cZ out) (([.ref (ad 0), .int a1, .int a2, .int a3, .int a4] : List Value).toArray) s 0 0 (AR ad)) (F0 m 132 ls []) := by
                intro n132
                induction n132 with
                | zero =>
                  intro x2 x3 x4 x5 x6 σ h
                  exact absurd h (by intro z; cases z)
                | succ n132 ih132 =>
                  intro x2 x3 x4 x5 x6 σ h H locs hW ls hl
                  replace h : B_MD_planned_132 (L_MD_planned_132 n132) x2 x3 x4 x5 x6 σ = some out := h
                  unfold B_MD_planned_132 at h
                  refine lv_iload hx hb d_MD_planned_132 (lv_at hl 5 rfl) ?_
                  refine lv_aload_n hx hb d_MD_planned_134 rfl (lv_at hl 0 rfl) ?_
                  refine gf_MD_123 C hW.1 d_MD_planned_135 ?_
                  refine lv_iconst (v := 1) hx hb d_MD_planned_138 (by decide) ?_
                  refine lv_isub hx hb d_MD_planned_139 ?_
                  refine lv_icmp_ge (tgt := 192) hx hb d_MD_planned_140 (by decide) (fun c471 => ?_) (fun c471 => ?_)
                  · rw [if_pos c471] at h
                    refine lv_aload_n hx hb d_MD_planned_192 rfl (lv_at hl 0 rfl) ?_
                    refine lv_iload hx hb d_MD_planned_193 (lv_at hl 4 rfl) ?_
                    refine lv_if_eq (tgt := 205) hx hb d_MD_planned_195 (by decide) (fun c477 => ?_) (fun c477 => ?_)
                    · rw [if_pos c477] at h
                      refine lv_aload_n hx hb d_MD_planned_205 rfl (lv_at hl 0 rfl) ?_
                      refine gf_MD_123 C hW.1 d_MD_planned_206 ?_
                      refine lv_iconst (v := 1) hx hb d_MD_planned_209 (by decide) ?_
                      refine lv_isub hx hb d_MD_planned_210 ?_
                      refine pf_MD_123 C hD hW d_MD_planned_211 (fun H locs hW => ?_)
                      obtain ⟨σ480, e_σ480, h⟩ := lt1_some h
                      rw [← e_σ480] at hW
                      refine lv_iload hx hb d_MD_planned_214 (lv_at hl 4 rfl) ?_
                      refine lv_if_eq (tgt := 223) hx hb d_MD_planned_216 (by decide) (fun c481 => ?_) (fun c481 => ?_)
                      · rw [if_pos c481] at h
                        refine lv_iconst (v := 1) hx hb d_MD_planned_223 (by decide) ?_
                        exact W.iret hx hb hr (fun t ht _ => qr_i h ht hW) hW.2.2.2 d_MD_planned_224
                      · rw [if_neg c481] at h
                        refine lv_iconst (v := 0) hx hb d_MD_planned_219 (by decide) ?_
                        refine lv_goto (tgt := 224) hx hb d_MD_planned_220 (by decide) ?_
                        exact W.iret hx hb hr (fun t ht _ => qr_i h ht hW) hW.2.2.2 d_MD_planned_224
                    · rw [if_neg c477] at h
                      refine lv_aload_n hx hb d_MD_planned_198 rfl (lv_at hl 0 rfl) ?_
                      refine gf_MD_123 C hW.1 d_MD_planned_199 ?_
                      refine lv_goto (tgt := 211) hx hb d_MD_planned_202 (by decide) ?_
                      refine pf_MD_123 C hD hW d_MD_planned_211 (fun H locs hW => ?_)
                      obtain ⟨σ478, e_σ478, h⟩ := lt1_some h
                      rw [← e_σ478] at hW
                      refine lv_iload hx hb d_MD_planned_214 (lv_at hl 4 rfl) ?_
                      refine lv_if_eq (tgt := 223) hx hb d_MD_planned_216 (by decide) (fun c479 => ?_) (fun c479 => ?_)
                      · rw [if_pos c479] at h
                        refine lv_iconst (v := 1) hx hb d_MD_planned_223 (by decide) ?_
                        exact W.iret hx hb hr (fun t ht _ => qr_i h ht hW) hW.2.2.2 d_MD_planned_224
                      · rw [if_neg c479] at h
                        refine lv_iconst (v := 0) hx hb d_MD_planned_219 (by decide) ?_
                        refine lv_goto (tgt := 224) hx hb d_MD_planned_220 (by decide) ?_
                        exact W.iret hx hb hr (fun t ht _ => qr_i h ht hW) hW.2.2.2 d_MD_planned_224
                  · rw [if_neg c471] at h
                    refine lv_iload hx hb d_MD_planned_143 (lv_at hl 4 rfl) ?_
                    refine lv_if_eq (tgt := 183) hx hb d_MD_planned_145 (by decide) (fun c472 => ?_) (fun c472 => ?_)
                    · rw [if_pos c472] at h
                      refine lv_iconst (v := 0) hx hb d_MD_planned_183 (by decide) ?_
                      refine lv_istore (lv' := [(5, .int 0), (0, .ref (ad 0)), (2, .int x2), (3, .int x3), (4, .int x4), (6, .int x6)]) hx hb d_MD_planned_184 hl (by decide) rfl (fun ls hl => ?_)
                      refine lv_iinc (v := x6 + 1) (lv' := [(6, .int (x6 + 1)), (5, .int 0), (0, .ref (ad 0)), (2, .int x2), (3, .int x3), (4, .int x4)]) hx hb d_MD_planned_186 hl (k := 5) rfl rfl (by decide) rfl (fun ls hl => ?_)
                      refine lv_goto (tgt := 132) hx hb d_MD_planned_189 (by decide) ?_
                      exact ih132 x2 x3 x4 0 (x6 + 1) σ h _ _ hW _ (lv_sub hl [2, 3, 4, 5, 1, 0] rfl)
                    · rw [if_neg c472] at h
                      refine lv_aload_n hx hb d_MD_planned_148 rfl (lv_at hl 0 rfl) ?_
                      refine gf_MD_65 C hW.1 d_MD_planned_149 ?_
                      refine lv_iload hx hb d_MD_planned_152 (lv_at hl 5 rfl) ?_
                      obtain ⟨hin, h⟩ := gd_some h
                      refine alR_19 C hW.1 hin d_MD_planned_154 ?_
                      refine lv_iload_n hx hb d_MD_planned_155 rfl (lv_at hl 2 rfl) ?_
                      refine lv_iload hx hb d_MD_planned_156 (lv_at hl 3 rfl) ?_
                      obtain ⟨r473, g_r473, h⟩ := ob_some h
                      refine cl_MD_98 (rest := []) C (hml.trans hl.1.symm) hW.1 g_r473 ⟨Nat.le_of_ble_eq_true rfl, Nat.le_of_ble_eq_true rfl⟩ (Nat.le_of_ble_eq_true rfl) d_MD_planned_158 ⟨Nat.zero_le _, Nat.zero_le _⟩ ?_
                      refine lv_if_eq (tgt := 179) hx hb d_MD_planned_161 (by decide) (fun c474 => ?_) (fun c474 => ?_)
                      · rw [if_pos c474] at h
                        refine lv_iconst (v := 1) hx hb d_MD_planned_179 (by decide) ?_
                        refine lv_goto (tgt := 184) hx hb d_MD_planned_180 (by decide) ?_
                        refine lv_istore (lv' := [(5, .int 1), (0, .ref (ad 0)), (2, .int x2), (3, .int x3), (4, .int x4), (6, .int x6)]) hx hb d_MD_planned_184 hl (by decide) rfl (fun ls hl => ?_)
                        refine lv_iinc (v := x6 + 1) (lv' := [(6, .int (x6 + 1)), (5, .int 1), (0, .ref (ad 0)), (2, .int x2), (3, .int x3), (4, .int x4)]) hx hb d_MD_planned_186 hl (k := 5) rfl rfl (by decide) rfl (fun ls hl => ?_)
                        refine lv_goto (tgt := 132) hx hb d_MD_planned_189 (by decide) ?_
                        exact ih132 x2 x3 x4 1 (x6 + 1) σ h _ _ hW _ (lv_sub hl [2, 3, 4, 5, 1, 0] rfl)
                      · rw [if_neg c474] at h
                        refine lv_aload_n hx hb d_MD_planned_164 rfl (lv_at hl 0 rfl) ?_
                        refine lv_iload_n hx hb d_MD_planned_165 rfl (lv_at hl 1 rfl) ?_
                        refine lv_aload_n hx hb d_MD_planned_166 rfl (lv_at hl 0 rfl) ?_
                        refine gf_MD_65 C hW.1 d_MD_planned_167 ?_
                        refine lv_iload hx hb d_MD_planned_170 (lv_at hl 5 rfl) ?_
                        obtain ⟨hin, h⟩ := gd_some h
                        refine alR_19 C hW.1 hin d_MD_planned_172 ?_
                        obtain ⟨r475, g_r475, h⟩ := ob_some h
                        refine cl_MD_139 (rest := []) C (hml.trans hl.1.symm) hW.1 g_r475 ⟨Nat.le_of_ble_eq_true rfl, Nat.le_of_ble_eq_true rfl⟩ (Nat.le_of_ble_eq_true rfl) d_MD_planned_173 ⟨Nat.zero_le _, Nat.zero_le _⟩ ?_
                        refine lv_if_eq (tgt := 183) hx hb d_MD_planned_176 (by decide) (fun c476 => ?_) (fun c476 => ?_)
                        · rw [if_pos c476] at h
                          refine lv_iconst (v := 0) hx hb d_MD_planned_183 (by decide) ?_
                          refine lv_istore (lv' := [(5, .int 0), (0, .ref (ad 0)), (2, .int x2), (3, .int x3), (4, .int x4), (6, .int x6)]) hx hb d_MD_planned_184 hl (by decide) rfl (fun ls hl => ?_)
                          refine lv_iinc (v := x6 + 1) (lv' := [(6, .int (x6 + 1)), (5, .int 0), (0, .ref (ad 0)), (2, .int x2), (3, .int x3), (4, .int x4)]) hx hb d_MD_planned_186 hl (k := 5) rfl rfl (by decide) rfl (fun ls hl => ?_)
                          refine lv_goto (tgt := 132) hx hb d_MD_planned_189 (by decide) ?_
                          exact ih132 x2 x3 x4 0 (x6 + 1) σ h _ _ hW _ (lv_sub hl [2, 3, 4, 5, 1, 0] rfl)
                        · rw [if_neg c476] at h
                          refine lv_iconst (v := 1) hx hb d_MD_planned_179 (by decide) ?_
                          refine lv_goto (tgt := 184) hx hb d_MD_planned_180 (by decide) ?_
                          refine lv_istore (lv' := [(5, .int 1), (0, .ref (ad 0)), (2, .int x2), (3, .int x3), (4, .int x4), (6, .int x6)]) hx hb d_MD_planned_184 hl (by decide) rfl (fun ls hl => ?_)
                          refine lv_iinc (v := x6 + 1) (lv' := [(6, .int (x6 + 1)), (5, .int 1), (0, .ref (ad 0)), (2, .int x2), (3, .int x3), (4, .int x4)]) hx hb d_MD_planned_186 hl (k := 5) rfl rfl (by decide) rfl (fun ls hl => ?_)
                          refine lv_goto (tgt := 132) hx hb d_MD_planned_189 (by decide) ?_
                          exact ih132 x2 x3 x4 1 (x6 + 1) σ h _ _ hW _ (lv_sub hl [2, 3, 4, 5, 1, 0] rfl)
              exact k132 _ x2 x3 x4 r470 0 σ469 h _ _ hW _ (lv_sub hl [2, 4, 5, 6, 1, 0] rfl)
            · rw [if_pos c464] at h
              refine lv_iconst (v := 0) hx hb d_MD_planned_68 (by decide) ?_
              exact W.iret hx hb hr (fun t ht _ => qr_i h ht hW) hW.2.2.2 d_MD_planned_69
          exact k62 x1 x2 x3 x4 0 0 s0 σ h _ _ hW _ (lv_sub hl [0, 1, 2, 3, 4] rfl)
        · rw [if_neg c443] at h
          refine lv_iconst (v := 1) hx hb d_MD_planned_57 (by decide) ?_
          refine lv_goto (tgt := 62) hx hb d_MD_planned_58 (by decide) ?_
          have k62 : ∀ (x1 : Int32) (x2 : Int32) (x3 : Int32) (x4 : Int32) (s0 : Int32) (s1 : Int32) (s2 : Int32) (σ : Sg) (h : C_MD_planned_62 x1 x2 x3 x4 s0 s1 s2 σ = some out) (H : Heap) (locs : List Loc) (hW : WR G ad cI cZ s σ H locs) (ls : Array Slot) (hl : lv_has ls 7 [(0, .ref (ad 0)), (1, .int x1), (2, .int x2), (3, .int x3), (4, .int x4)]), W p l e (headSpec wl_MD_planned ({ frames := 4, cells := 0, slots := 0, locals := 97 } : Room)).room s m (([.ref (ad 0), .int a1, .int a2, .int a3, .int a4] : List Value).toArray) below meth c H locs 0 0 (MQ below (QRi G ad cI cZ out) (([.ref (ad 0), .int a1, .int a2, .int a3, .int a4] : List Value).toArray) s 0 0 (AR ad)) (F0 m 62 ls [.int s0, .int s1, .int s2, .ref (ad 0)]) := by
            intro x1 x2 x3 x4 s0 s1 s2 σ h H locs hW ls hl
            unfold C_MD_planned_62 at h
            obtain ⟨r444, g_r444, h⟩ := ob_some h
            refine cl_MD_102 (rest := []) C hD (hml.trans hl.1.symm) hW g_r444 ⟨Nat.le_of_ble_eq_true rfl, Nat.le_of_ble_eq_true rfl⟩ (Nat.le_of_ble_eq_true rfl) d_MD_planned_62 ⟨Nat.zero_le _, Nat.zero_le _⟩ (fun H locs hW => ?_)
            refine lv_if_ne (tgt := 70) hx hb d_MD_planned_65 (by decide) (fun c445 => ?_) (fun c445 => ?_)
            · rw [if_neg c445] at h
              refine lv_aload_n hx hb d_MD_planned_70 rfl (lv_at hl 0 rfl) ?_
              refine gf_MD_59 C hW.1 d_MD_planned_71 ?_
              refine lv_aload_n hx hb d_MD_planned_74 rfl (lv_at hl 0 rfl) ?_
              refine gf_MD_123 C hW.1 d_MD_planned_75 ?_
              refine lv_iload_n hx hb d_MD_planned_78 rfl (lv_at hl 1 rfl) ?_
              obtain ⟨hin, h⟩ := gd_some h
              refine asR_17 C hD hW hin d_MD_planned_79 (fun H locs hW => ?_)
              obtain ⟨σ446, e_σ446, h⟩ := lt1_some h
              rw [← e_σ446] at hW
              refine lv_aload_n hx hb d_MD_planned_80 rfl (lv_at hl 0 rfl) ?_
              refine gf_MD_62 C hW.1 d_MD_planned_81 ?_
              refine lv_aload_n hx hb d_MD_planned_84 rfl (lv_at hl 0 rfl) ?_
              refine gf_MD_123 C hW.1 d_MD_planned_85 ?_
              refine lv_iload_n hx hb d_MD_planned_88 rfl (lv_at hl 2 rfl) ?_
              obtain ⟨hin, h⟩ := gd_some h
              refine asR_18 C hD hW hin d_MD_planned_89 (fun H locs hW => ?_)
              obtain ⟨σ447, e_σ447, h⟩ := lt1_some h
              rw [← e_σ447] at hW
              refine lv_aload_n hx hb d_MD_planned_90 rfl (lv_at hl 0 rfl) ?_
              refine gf_MD_65 C hW.1 d_MD_planned_91 ?_
              refine lv_aload_n hx hb d_MD_planned_94 rfl (lv_at hl 0 rfl) ?_
              refine gf_MD_123 C hW.1 d_MD_planned_95 ?_
              refine lv_iload_n hx hb d_MD_planned_98 rfl (lv_at hl 3 rfl) ?_
              obtain ⟨hin, h⟩ := gd_some h
              refine asR_19 C hD hW hin d_MD_planned_99 (fun H locs hW => ?_)
              obtain ⟨σ448, e_σ448, h⟩ := lt1_some h
              rw [← e_σ448] at hW
              refine lv_aload_n hx hb d_MD_planned_100 rfl (lv_at hl 0 rfl) ?_
              refine gf_MD_68 C hW.1 d_MD_planned_101 ?_
              refine lv_aload_n hx hb d_MD_planned_104 rfl (lv_at hl 0 rfl) ?_
              refine gf_MD_123 C hW.1 d_MD_planned_105 ?_
              refine lv_iload hx hb d_MD_planned_108 (lv_at hl 4 rfl) ?_
              obtain ⟨hin, h⟩ := gd_some h
              refine asR_20 C hD hW hin d_MD_planned_110 (fun H locs hW => ?_)
              obtain ⟨σ449, e_σ449, h⟩ := lt1_some h
              rw [← e_σ449] at hW
              refine lv_aload_n hx hb d_MD_planned_111 rfl (lv_at hl 0 rfl) ?_
              refine lv_dup hx hb d_MD_planned_112 rfl ?_
              refine gf_MD_123 C hW.1 d_MD_planned_113 ?_
              refine lv_iconst (v := 1) hx hb d_MD_planned_116 (by decide) ?_
              refine lv_iadd hx hb d_MD_planned_117 ?_
              refine pf_MD_123 C hD hW d_MD_planned_118 (fun H locs hW => ?_)
              obtain ⟨σ450, e_σ450, h⟩ := lt1_some h
              rw [← e_σ450] at hW
              refine lv_aload_n hx hb d_MD_planned_121 rfl (lv_at hl 0 rfl) ?_
              refine lv_iload_n hx hb d_MD_planned_122 rfl (lv_at hl 2 rfl) ?_
              refine lv_iload_n hx hb d_MD_planned_123 rfl (lv_at hl 3 rfl) ?_
              obtain ⟨r451, g_r451, h⟩ := ob_some h
              refine cl_MD_139 (rest := []) C (hml.trans hl.1.symm) hW.1 g_r451 ⟨Nat.le_of_ble_eq_true rfl, Nat.le_of_ble_eq_true rfl⟩ (Nat.le_of_ble_eq_true rfl) d_MD_planned_124 ⟨Nat.zero_le _, Nat.zero_le _⟩ ?_
              refine lv_istore (lv' := [(5, .int r451), (0, .ref (ad 0)), (1, .int x1), (2, .int x2), (3, .int x3), (4, .int x4)]) hx hb d_MD_planned_127 hl (by decide) rfl (fun ls hl => ?_)
              refine lv_iconst (v := 0) hx hb d_MD_planned_129 (by decide) ?_
              refine lv_istore (lv' := [(6, .int 0), (5, .int r451), (0, .ref (ad 0)), (1, .int x1), (2, .int x2), (3, .int x3), (4, .int x4)]) hx hb d_MD_planned_130 hl (by decide) rfl (fun ls hl => ?_)
              have k132 : ∀ (n132 : Nat) (x2 : Int32) (x3 : Int32) (x4 : Int32) (x5 : Int32) (x6 : Int32) (σ : Sg) (h : L_MD_planned_132 n132 x2 x3 x4 x5 x6 σ = some out) (H : Heap) (locs : List Loc) (hW : WR G ad cI cZ s σ H locs) (ls : Array Slot) (hl : lv_has ls 7 [(0, .ref (ad 0)), (2, .int x2), (3, .int x3), (4, .int x4), (5, .int x5), (6, .int x6)]), W p l e (headSpec wl_MD_planned ({ frames := 4, cells := 0, slots := 0, locals := 97 } : Room)).room s m (([.ref (ad 0), .int a1, .int a2, .int a3, .int a4] : List Value).toArray) below meth c H locs 0 0 (MQ below (QRi G ad cI cZ out) (([.ref (ad 0), .int a1, .int a2, .int a3, .int a4] : List Value).toArray) s 0 0 (AR ad)) (F0 m 132 ls []) := by
                intro n132
                induction n132 with
                | zero =>
                  intro x2 x3 x4 x5 x6 σ h
                  exact absurd h (by intro z; cases z)
                | succ n132 ih132 =>
                  intro x2 x3 x4 x5 x6 σ h H locs hW ls hl
                  replace h : B_MD_planned_132 (L_MD_planned_132 n132) x2 x3 x4 x5 x6 σ = some out := h
                  unfold B_MD_planned_132 at h
                  refine lv_iload hx hb d_MD_planned_132 (lv_at hl 5 rfl) ?_
                  refine lv_aload_n hx hb d_MD_planned_134 rfl (lv_at hl 0 rfl) ?_
                  refine gf_MD_123 C hW.1 d_MD_planned_135 ?_
                  refine lv_iconst (v := 1) hx hb d_MD_planned_138 (by decide) ?_
                  refine lv_isub hx hb d_MD_planned_139 ?_
                  refine lv_icmp_ge (tgt := 192) hx hb d_MD_planned_140 (by decide) (fun c452 => ?_) (fun c452 => ?_)
                  · rw [if_pos c452] at h
                    refine lv_aload_n hx hb d_MD_planned_192 rfl (lv_at hl 0 rfl) ?_
                    refine lv_iload hx hb d_MD_planned_193 (lv_at hl 4 rfl) ?_
                    refine lv_if_eq (tgt := 205) hx hb d_MD_planned_195 (by decide) (fun c458 => ?_) (fun c458 => ?_)
                    · rw [if_pos c458] at h
                      refine lv_aload_n hx hb d_MD_planned_205 rfl (lv_at hl 0 rfl) ?_
                      refine gf_MD_123 C hW.1 d_MD_planned_206 ?_
                      refine lv_iconst (v := 1) hx hb d_MD_planned_209 (by decide) ?_
                      refine lv_isub hx hb d_MD_planned_210 ?_
                      refine pf_MD_123 C hD hW d_MD_planned_211 (fun H locs hW => ?_)
                      obtain ⟨σ461, e_σ461, h⟩ := lt1_some h
                      rw [← e_σ461] at hW
                      refine lv_iload hx hb d_MD_planned_214 (lv_at hl 4 rfl) ?_
                      refine lv_if_eq (tgt := 223) hx hb d_MD_planned_216 (by decide) (fun c462 => ?_) (fun c462 => ?_)
                      · rw [if_pos c462] at h
                        refine lv_iconst (v := 1) hx hb d_MD_planned_223 (by decide) ?_
                        exact W.iret hx hb hr (fun t ht _ => qr_i h ht hW) hW.2.2.2 d_MD_planned_224
                      · rw [if_neg c462] at h
                        refine lv_iconst (v := 0) hx hb d_MD_planned_219 (by decide) ?_
                        refine lv_goto (tgt := 224) hx hb d_MD_planned_220 (by decide) ?_
                        exact W.iret hx hb hr (fun t ht _ => qr_i h ht hW) hW.2.2.2 d_MD_planned_224
                    · rw [if_neg c458] at h
                      refine lv_aload_n hx hb d_MD_planned_198 rfl (lv_at hl 0 rfl) ?_
                      refine gf_MD_123 C hW.1 d_MD_planned_199 ?_
                      refine lv_goto (tgt := 211) hx hb d_MD_planned_202 (by decide) ?_
                      refine pf_MD_123 C hD hW d_MD_planned_211 (fun H locs hW => ?_)
                      obtain ⟨σ459, e_σ459, h⟩ := lt1_some h
                      rw [← e_σ459] at hW
                      refine lv_iload hx hb d_MD_planned_214 (lv_at hl 4 rfl) ?_
                      refine lv_if_eq (tgt := 223) hx hb d_MD_planned_216 (by decide) (fun c460 => ?_) (fun c460 => ?_)
                      · rw [if_pos c460] at h
                        refine lv_iconst (v := 1) hx hb d_MD_planned_223 (by decide) ?_
                        exact W.iret hx hb hr (fun t ht _ => qr_i h ht hW) hW.2.2.2 d_MD_planned_224
                      · rw [if_neg c460] at h
                        refine lv_iconst (v := 0) hx hb d_MD_planned_219 (by decide) ?_
                        refine lv_goto (tgt := 224) hx hb d_MD_planned_220 (by decide) ?_
                        exact W.iret hx hb hr (fun t ht _ => qr_i h ht hW) hW.2.2.2 d_MD_planned_224
                  · rw [if_neg c452] at h
                    refine lv_iload hx hb d_MD_planned_143 (lv_at hl 4 rfl) ?_
                    refine lv_if_eq (tgt := 183) hx hb d_MD_planned_145 (by decide) (fun c453 => ?_) (fun c453 => ?_)
                    · rw [if_pos c453] at h
                      refine lv_iconst (v := 0) hx hb d_MD_planned_183 (by decide) ?_
                      refine lv_istore (lv' := [(5, .int 0), (0, .ref (ad 0)), (2, .int x2), (3, .int x3), (4, .int x4), (6, .int x6)]) hx hb d_MD_planned_184 hl (by decide) rfl (fun ls hl => ?_)
                      refine lv_iinc (v := x6 + 1) (lv' := [(6, .int (x6 + 1)), (5, .int 0), (0, .ref (ad 0)), (2, .int x2), (3, .int x3), (4, .int x4)]) hx hb d_MD_planned_186 hl (k := 5) rfl rfl (by decide) rfl (fun ls hl => ?_)
                      refine lv_goto (tgt := 132) hx hb d_MD_planned_189 (by decide) ?_
                      exact ih132 x2 x3 x4 0 (x6 + 1) σ h _ _ hW _ (lv_sub hl [2, 3, 4, 5, 1, 0] rfl)
                    · rw [if_neg c453] at h
                      refine lv_aload_n hx hb d_MD_planned_148 rfl (lv_at hl 0 rfl) ?_
                      refine gf_MD_65 C hW.1 d_MD_planned_149 ?_
                      refine lv_iload hx hb d_MD_planned_152 (lv_at hl 5 rfl) ?_
                      obtain ⟨hin, h⟩ := gd_some h
                      refine alR_19 C hW.1 hin d_MD_planned_154 ?_
                      refine lv_iload_n hx hb d_MD_planned_155 rfl (lv_at hl 2 rfl) ?_
                      refine lv_iload hx hb d_MD_planned_156 (lv_at hl 3 rfl) ?_
                      obtain ⟨r454, g_r454, h⟩ := ob_some h
                      refine cl_MD_98 (rest := []) C (hml.trans hl.1.symm) hW.1 g_r454 ⟨Nat.le_of_ble_eq_true rfl, Nat.le_of_ble_eq_true rfl⟩ (Nat.le_of_ble_eq_true rfl) d_MD_planned_158 ⟨Nat.zero_le _, Nat.zero_le _⟩ ?_
                      refine lv_if_eq (tgt := 179) hx hb d_MD_planned_161 (by decide) (fun c455 => ?_) (fun c455 => ?_)
                      · rw [if_pos c455] at h
                        refine lv_iconst (v := 1) hx hb d_MD_planned_179 (by decide) ?_
                        refine lv_goto (tgt := 184) hx hb d_MD_planned_180 (by decide) ?_
                        refine lv_istore (lv' := [(5, .int 1), (0, .ref (ad 0)), (2, .int x2), (3, .int x3), (4, .int x4), (6, .int x6)]) hx hb d_MD_planned_184 hl (by decide) rfl (fun ls hl => ?_)
                        refine lv_iinc (v := x6 + 1) (lv' := [(6, .int (x6 + 1)), (5, .int 1), (0, .ref (ad 0)), (2, .int x2), (3, .int x3), (4, .int x4)]) hx hb d_MD_planned_186 hl (k := 5) rfl rfl (by decide) rfl (fun ls hl => ?_)
                        refine lv_goto (tgt := 132) hx hb d_MD_planned_189 (by decide) ?_
                        exact ih132 x2 x3 x4 1 (x6 + 1) σ h _ _ hW _ (lv_sub hl [2, 3, 4, 5, 1, 0] rfl)
                      · rw [if_neg c455] at h
                        refine lv_aload_n hx hb d_MD_planned_164 rfl (lv_at hl 0 rfl) ?_
                        refine lv_iload_n hx hb d_MD_planned_165 rfl (lv_at hl 1 rfl) ?_
                        refine lv_aload_n hx hb d_MD_planned_166 rfl (lv_at hl 0 rfl) ?_
                        refine gf_MD_65 C hW.1 d_MD_planned_167 ?_
                        refine lv_iload hx hb d_MD_planned_170 (lv_at hl 5 rfl) ?_
                        obtain ⟨hin, h⟩ := gd_some h
                        refine alR_19 C hW.1 hin d_MD_planned_172 ?_
                        obtain ⟨r456, g_r456, h⟩ := ob_some h
                        refine cl_MD_139 (rest := []) C (hml.trans hl.1.symm) hW.1 g_r456 ⟨Nat.le_of_ble_eq_true rfl, Nat.le_of_ble_eq_true rfl⟩ (Nat.le_of_ble_eq_true rfl) d_MD_planned_173 ⟨Nat.zero_le _, Nat.zero_le _⟩ ?_
                        refine lv_if_eq (tgt := 183) hx hb d_MD_planned_176 (by decide) (fun c457 => ?_) (fun c457 => ?_)
                        · rw [if_pos c457] at h
                          refine lv_iconst (v := 0) hx hb d_MD_planned_183 (by decide) ?_
                          refine lv_istore (lv' := [(5, .int 0), (0, .ref (ad 0)), (2, .int x2), (3, .int x3), (4, .int x4), (6, .int x6)]) hx hb d_MD_planned_184 hl (by decide) rfl (fun ls hl => ?_)
                          refine lv_iinc (v := x6 + 1) (lv' := [(6, .int (x6 + 1)), (5, .int 0), (0, .ref (ad 0)), (2, .int x2), (3, .int x3), (4, .int x4)]) hx hb d_MD_planned_186 hl (k := 5) rfl rfl (by decide) rfl (fun ls hl => ?_)
                          refine lv_goto (tgt := 132) hx hb d_MD_planned_189 (by decide) ?_
                          exact ih132 x2 x3 x4 0 (x6 + 1) σ h _ _ hW _ (lv_sub hl [2, 3, 4, 5, 1, 0] rfl)
                        · rw [if_neg c457] at h
                          refine lv_iconst (v := 1) hx hb d_MD_planned_179 (by decide) ?_
                          refine lv_goto (tgt := 184) hx hb d_MD_planned_180 (by decide) ?_
                          refine lv_istore (lv' := [(5, .int 1), (0, .ref (ad 0)), (2, .int x2), (3, .int x3), (4, .int x4), (6, .int x6)]) hx hb d_MD_planned_184 hl (by decide) rfl (fun ls hl => ?_)
                          refine lv_iinc (v := x6 + 1) (lv' := [(6, .int (x6 + 1)), (5, .int 1), (0, .ref (ad 0)), (2, .int x2), (3, .int x3), (4, .int x4)]) hx hb d_MD_planned_186 hl (k := 5) rfl rfl (by decide) rfl (fun ls hl => ?_)
                          refine lv_goto (tgt := 132) hx hb d_MD_planned_189 (by decide) ?_
                          exact ih132 x2 x3 x4 1 (x6 + 1) σ h _ _ hW _ (lv_sub hl [2, 3, 4, 5, 1, 0] rfl)
              exact k132 _ x2 x3 x4 r451 0 σ450 h _ _ hW _ (lv_sub hl [2, 4, 5, 6, 1, 0] rfl)
            · rw [if_pos c445] at h
              refine lv_iconst (v := 0) hx hb d_MD_planned_68 (by decide) ?_
              exact W.iret hx hb hr (fun t ht _ => qr_i h ht hW) hW.2.2.2 d_MD_planned_69
          exact k62 x1 x2 x3 x4 1 0 s0 σ h _ _ hW _ (lv_sub hl [0, 1, 2, 3, 4] rfl)
      · rw [if_neg c323] at h
        refine lv_iload hx hb d_MD_planned_30 (lv_at hl 4 rfl) ?_
        refine lv_iload_n hx hb d_MD_planned_32 rfl (lv_at hl 3 rfl) ?_
        refine lv_icmp_lt (tgt := 47) hx hb d_MD_planned_33 (by decide) (fun c324 => ?_) (fun c324 => ?_)
        · rw [if_pos c324] at h
          refine lv_iconst (v := 0) hx hb d_MD_planned_47 (by decide) ?_
          refine lv_aload_n hx hb d_MD_planned_48 rfl (lv_at hl 0 rfl) ?_
          refine gf_MD_123 C hW.1 d_MD_planned_49 ?_
          refine lv_bipush (v := 30) hx hb d_MD_planned_52 (by decide) ?_
          refine lv_icmp_ge (tgt := 61) hx hb d_MD_planned_54 (by decide) (fun c404 => ?_) (fun c404 => ?_)
          · rw [if_pos c404] at h
            refine lv_iconst (v := 0) hx hb d_MD_planned_61 (by decide) ?_
            have k62 : ∀ (x1 : Int32) (x2 : Int32) (x3 : Int32) (x4 : Int32) (s0 : Int32) (s1 : Int32) (s2 : Int32) (σ : Sg) (h : C_MD_planned_62 x1 x2 x3 x4 s0 s1 s2 σ = some out) (H : Heap) (locs : List Loc) (hW : WR G ad cI cZ s σ H locs) (ls : Array Slot) (hl : lv_has ls 7 [(0, .ref (ad 0)), (1, .int x1), (2, .int x2), (3, .int x3), (4, .int x4)]), W p l e (headSpec wl_MD_planned ({ frames := 4, cells := 0, slots := 0, locals := 97 } : Room)).room s m (([.ref (ad 0), .int a1, .int a2, .int a3, .int a4] : List Value).toArray) below meth c H locs 0 0 (MQ below (QRi G ad cI cZ out) (([.ref (ad 0), .int a1, .int a2, .int a3, .int a4] : List Value).toArray) s 0 0 (AR ad)) (F0 m 62 ls [.int s0, .int s1, .int s2, .ref (ad 0)]) := by
              intro x1 x2 x3 x4 s0 s1 s2 σ h H locs hW ls hl
              unfold C_MD_planned_62 at h
              obtain ⟨r424, g_r424, h⟩ := ob_some h
              refine cl_MD_102 (rest := []) C hD (hml.trans hl.1.symm) hW g_r424 ⟨Nat.le_of_ble_eq_true rfl, Nat.le_of_ble_eq_true rfl⟩ (Nat.le_of_ble_eq_true rfl) d_MD_planned_62 ⟨Nat.zero_le _, Nat.zero_le _⟩ (fun H locs hW => ?_)
              refine lv_if_ne (tgt := 70) hx hb d_MD_planned_65 (by decide) (fun c425 => ?_) (fun c425 => ?_)
              · rw [if_neg c425] at h
                refine lv_aload_n hx hb d_MD_planned_70 rfl (lv_at hl 0 rfl) ?_
                refine gf_MD_59 C hW.1 d_MD_planned_71 ?_
                refine lv_aload_n hx hb d_MD_planned_74 rfl (lv_at hl 0 rfl) ?_
                refine gf_MD_123 C hW.1 d_MD_planned_75 ?_
                refine lv_iload_n hx hb d_MD_planned_78 rfl (lv_at hl 1 rfl) ?_
                obtain ⟨hin, h⟩ := gd_some h
                refine asR_17 C hD hW hin d_MD_planned_79 (fun H locs hW => ?_)
                obtain ⟨σ426, e_σ426, h⟩ := lt1_some h
                rw [← e_σ426] at hW
                refine lv_aload_n hx hb d_MD_planned_80 rfl (lv_at hl 0 rfl) ?_
                refine gf_MD_62 C hW.1 d_MD_planned_81 ?_
                refine lv_aload_n hx hb d_MD_planned_84 rfl (lv_at hl 0 rfl) ?_
                refine gf_MD_123 C hW.1 d_MD_planned_85 ?_
                refine lv_iload_n hx hb d_MD_planned_88 rfl (lv_at hl 2 rfl) ?_
                obtain ⟨hin, h⟩ := gd_some h
                refine asR_18 C hD hW hin d_MD_planned_89 (fun H locs hW => ?_)
                obtain ⟨σ427, e_σ427, h⟩ := lt1_some h
                rw [← e_σ427] at hW
                refine lv_aload_n hx hb d_MD_planned_90 rfl (lv_at hl 0 rfl) ?_
                refine gf_MD_65 C hW.1 d_MD_planned_91 ?_
                refine lv_aload_n hx hb d_MD_planned_94 rfl (lv_at hl 0 rfl) ?_
                refine gf_MD_123 C hW.1 d_MD_planned_95 ?_
                refine lv_iload_n hx hb d_MD_planned_98 rfl (lv_at hl 3 rfl) ?_
                obtain ⟨hin, h⟩ := gd_some h
                refine asR_19 C hD hW hin d_MD_planned_99 (fun H locs hW => ?_)
                obtain ⟨σ428, e_σ428, h⟩ := lt1_some h
                rw [← e_σ428] at hW
                refine lv_aload_n hx hb d_MD_planned_100 rfl (lv_at hl 0 rfl) ?_
                refine gf_MD_68 C hW.1 d_MD_planned_101 ?_
                refine lv_aload_n hx hb d_MD_planned_104 rfl (lv_at hl 0 rfl) ?_
                refine gf_MD_123 C hW.1 d_MD_planned_105 ?_
                refine lv_iload hx hb d_MD_planned_108 (lv_at hl 4 rfl) ?_
                obtain ⟨hin, h⟩ := gd_some h
                refine asR_20 C hD hW hin d_MD_planned_110 (fun H locs hW => ?_)
                obtain ⟨σ429, e_σ429, h⟩ := lt1_some h
                rw [← e_σ429] at hW
                refine lv_aload_n hx hb d_MD_planned_111 rfl (lv_at hl 0 rfl) ?_
                refine lv_dup hx hb d_MD_planned_112 rfl ?_
                refine gf_MD_123 C hW.1 d_MD_planned_113 ?_
                refine lv_iconst (v := 1) hx hb d_MD_planned_116 (by decide) ?_
                refine lv_iadd hx hb d_MD_planned_117 ?_
                refine pf_MD_123 C hD hW d_MD_planned_118 (fun H locs hW => ?_)
                obtain ⟨σ430, e_σ430, h⟩ := lt1_some h
                rw [← e_σ430] at hW
                refine lv_aload_n hx hb d_MD_planned_121 rfl (lv_at hl 0 rfl) ?_
                refine lv_iload_n hx hb d_MD_planned_122 rfl (lv_at hl 2 rfl) ?_
                refine lv_iload_n hx hb d_MD_planned_123 rfl (lv_at hl 3 rfl) ?_
                obtain ⟨r431, g_r431, h⟩ := ob_some h
                refine cl_MD_139 (rest := []) C (hml.trans hl.1.symm) hW.1 g_r431 ⟨Nat.le_of_ble_eq_true rfl, Nat.le_of_ble_eq_true rfl⟩ (Nat.le_of_ble_eq_true rfl) d_MD_planned_124 ⟨Nat.zero_le _, Nat.zero_le _⟩ ?_
                refine lv_istore (lv' := [(5, .int r431), (0, .ref (ad 0)), (1, .int x1), (2, .int x2), (3, .int x3), (4, .int x4)]) hx hb d_MD_planned_127 hl (by decide) rfl (fun ls hl => ?_)
                refine lv_iconst (v := 0) hx hb d_MD_planned_129 (by decide) ?_
                refine lv_istore (lv' := [(6, .int 0), (5, .int r431), (0, .ref (ad 0)), (1, .int x1), (2, .int x2), (3, .int x3), (4, .int x4)]) hx hb d_MD_planned_130 hl (by decide) rfl (fun ls hl => ?_)
                have k132 : ∀ (n132 : Nat) (x2 : Int32) (x3 : Int32) (x4 : Int32) (x5 : Int32) (x6 : Int32) (σ : Sg) (h : L_MD_planned_132 n132 x2 x3 x4 x5 x6 σ = some out) (H : Heap) (locs : List Loc) (hW : WR G ad cI cZ s σ H locs) (ls : Array Slot) (hl : lv_has ls 7 [(0, .ref (ad 0)), (2, .int x2), (3, .int x3), (4, .int x4), (5, .int x5), (6, .int x6)]), W p l e (headSpec wl_MD_planned ({ frames := 4, cells := 0, slots := 0, locals := 97 } : Room)).room s m (([.ref (ad 0), .int a1, .int a2, .int a3, .int a4] : List Value).toArray) below meth c H locs 0 0 (MQ below (QRi G ad cI cZ out) (([.ref (ad 0), .int a1, .int a2, .int a3, .int a4] : List Value).toArray) s 0 0 (AR ad)) (F0 m 132 ls []) := by
                  intro n132
                  induction n132 with
                  | zero =>
                    intro x2 x3 x4 x5 x6 σ h
                    exact absurd h (by intro z; cases z)
                  | succ n132 ih132 =>
                    intro x2 x3 x4 x5 x6 σ h H locs hW ls hl
                    replace h : B_MD_planned_132 (L_MD_planned_132 n132) x2 x3 x4 x5 x6 σ = some out := h
                    unfold B_MD_planned_132 at h
                    refine lv_iload hx hb d_MD_planned_132 (lv_at hl 5 rfl) ?_
                    refine lv_aload_n hx hb d_MD_planned_134 rfl (lv_at hl 0 rfl) ?_
                    refine gf_MD_123 C hW.1 d_MD_planned_135 ?_
                    refine lv_iconst (v := 1) hx hb d_MD_planned_138 (by decide) ?_
                    refine lv_isub hx hb d_MD_planned_139 ?_
                    refine lv_icmp_ge (tgt := 192) hx hb d_MD_planned_140 (by decide) (fun c432 => ?_) (fun c432 => ?_)
                    · rw [if_pos c432] at h
                      refine lv_aload_n hx hb d_MD_planned_192 rfl (lv_at hl 0 rfl) ?_
                      refine lv_iload hx hb d_MD_planned_193 (lv_at hl 4 rfl) ?_
                      refine lv_if_eq (tgt := 205) hx hb d_MD_planned_195 (by decide) (fun c438 => ?_) (fun c438 => ?_)
                      · rw [if_pos c438] at h
                        refine lv_aload_n hx hb d_MD_planned_205 rfl (lv_at hl 0 rfl) ?_
                        refine gf_MD_123 C hW.1 d_MD_planned_206 ?_
                        refine lv_iconst (v := 1) hx hb d_MD_planned_209 (by decide) ?_
                        refine lv_isub hx hb d_MD_planned_210 ?_
                        refine pf_MD_123 C hD hW d_MD_planned_211 (fun H locs hW => ?_)
                        obtain ⟨σ441, e_σ441, h⟩ := lt1_some h
                        rw [← e_σ441] at hW
                        refine lv_iload hx hb d_MD_planned_214 (lv_at hl 4 rfl) ?_
                        refine lv_if_eq (tgt := 223) hx hb d_MD_planned_216 (by decide) (fun c442 => ?_) (fun c442 => ?_)
                        · rw [if_pos c442] at h
                          refine lv_iconst (v := 1) hx hb d_MD_planned_223 (by decide) ?_
                          exact W.iret hx hb hr (fun t ht _ => qr_i h ht hW) hW.2.2.2 d_MD_planned_224
                        · rw [if_neg c442] at h
                          refine lv_iconst (v := 0) hx hb d_MD_planned_219 (by decide) ?_
                          refine lv_goto (tgt := 224) hx hb d_MD_planned_220 (by decide) ?_
                          exact W.iret hx hb hr (fun t ht _ => qr_i h ht hW) hW.2.2.2 d_MD_planned_224
                      · rw [if_neg c438] at h
                        refine lv_aload_n hx hb d_MD_planned_198 rfl (lv_at hl 0 rfl) ?_
                        refine gf_MD_123 C hW.1 d_MD_planned_199 ?_
                        refine lv_goto (tgt := 211) hx hb d_MD_planned_202 (by decide) ?_
                        refine pf_MD_123 C hD hW d_MD_planned_211 (fun H locs hW => ?_)
                        obtain ⟨σ439, e_σ439, h⟩ := lt1_some h
                        rw [← e_σ439] at hW
                        refine lv_iload hx hb d_MD_planned_214 (lv_at hl 4 rfl) ?_
                        refine lv_if_eq (tgt := 223) hx hb d_MD_planned_216 (by decide) (fun c440 => ?_) (fun c440 => ?_)
                        · rw [if_pos c440] at h
                          refine lv_iconst (v := 1) hx hb d_MD_planned_223 (by decide) ?_
                          exact W.iret hx hb hr (fun t ht _ => qr_i h ht hW) hW.2.2.2 d_MD_planned_224
                        · rw [if_neg c440] at h
                          refine lv_iconst (v := 0) hx hb d_MD_planned_219 (by decide) ?_
                          refine lv_goto (tgt := 224) hx hb d_MD_planned_220 (by decide) ?_
                          exact W.iret hx hb hr (fun t ht _ => qr_i h ht hW) hW.2.2.2 d_MD_planned_224
                    · rw [if_neg c432] at h
                      refine lv_iload hx hb d_MD_planned_143 (lv_at hl 4 rfl) ?_
                      refine lv_if_eq (tgt := 183) hx hb d_MD_planned_145 (by decide) (fun c433 => ?_) (fun c433 => ?_)
                      · rw [if_pos c433] at h
                        refine lv_iconst (v := 0) hx hb d_MD_planned_183 (by decide) ?_
                        refine lv_istore (lv' := [(5, .int 0), (0, .ref (ad 0)), (2, .int x2), (3, .int x3), (4, .int x4), (6, .int x6)]) hx hb d_MD_planned_184 hl (by decide) rfl (fun ls hl => ?_)
                        refine lv_iinc (v := x6 + 1) (lv' := [(6, .int (x6 + 1)), (5, .int 0), (0, .ref (ad 0)), (2, .int x2), (3, .int x3), (4, .int x4)]) hx hb d_MD_planned_186 hl (k := 5) rfl rfl (by decide) rfl (fun ls hl => ?_)
                        refine lv_goto (tgt := 132) hx hb d_MD_planned_189 (by decide) ?_
                        exact ih132 x2 x3 x4 0 (x6 + 1) σ h _ _ hW _ (lv_sub hl [2, 3, 4, 5, 1, 0] rfl)
                      · rw [if_neg c433] at h
                        refine lv_aload_n hx hb d_MD_planned_148 rfl (lv_at hl 0 rfl) ?_
                        refine gf_MD_65 C hW.1 d_MD_planned_149 ?_
                        refine lv_iload hx hb d_MD_planned_152 (lv_at hl 5 rfl) ?_
                        obtain ⟨hin, h⟩ := gd_some h
                        refine alR_19 C hW.1 hin d_MD_planned_154 ?_
                        refine lv_iload_n hx hb d_MD_planned_155 rfl (lv_at hl 2 rfl) ?_
                        refine lv_iload hx hb d_MD_planned_156 (lv_at hl 3 rfl) ?_
                        obtain ⟨r434, g_r434, h⟩ := ob_some h
                        refine cl_MD_98 (rest := []) C (hml.trans hl.1.symm) hW.1 g_r434 ⟨Nat.le_of_ble_eq_true rfl, Nat.le_of_ble_eq_true rfl⟩ (Nat.le_of_ble_eq_true rfl) d_MD_planned_158 ⟨Nat.zero_le _, Nat.zero_le _⟩ ?_
                        refine lv_if_eq (tgt := 179) hx hb d_MD_planned_161 (by decide) (fun c435 => ?_) (fun c435 => ?_)
                        · rw [if_pos c435] at h
                          refine lv_iconst (v := 1) hx hb d_MD_planned_179 (by decide) ?_
                          refine lv_goto (tgt := 184) hx hb d_MD_planned_180 (by decide) ?_
                          refine lv_istore (lv' := [(5, .int 1), (0, .ref (ad 0)), (2, .int x2), (3, .int x3), (4, .int x4), (6, .int x6)]) hx hb d_MD_planned_184 hl (by decide) rfl (fun ls hl => ?_)
                          refine lv_iinc (v := x6 + 1) (lv' := [(6, .int (x6 + 1)), (5, .int 1), (0, .ref (ad 0)), (2, .int x2), (3, .int x3), (4, .int x4)]) hx hb d_MD_planned_186 hl (k := 5) rfl rfl (by decide) rfl (fun ls hl => ?_)
                          refine lv_goto (tgt := 132) hx hb d_MD_planned_189 (by decide) ?_
                          exact ih132 x2 x3 x4 1 (x6 + 1) σ h _ _ hW _ (lv_sub hl [2, 3, 4, 5, 1, 0] rfl)
                        · rw [if_neg c435] at h
                          refine lv_aload_n hx hb d_MD_planned_164 rfl (lv_at hl 0 rfl) ?_
                          refine lv_iload_n hx hb d_MD_planned_165 rfl (lv_at hl 1 rfl) ?_
                          refine lv_aload_n hx hb d_MD_planned_166 rfl (lv_at hl 0 rfl) ?_
                          refine gf_MD_65 C hW.1 d_MD_planned_167 ?_
                          refine lv_iload hx hb d_MD_planned_170 (lv_at hl 5 rfl) ?_
                          obtain ⟨hin, h⟩ := gd_some h
                          refine alR_19 C hW.1 hin d_MD_planned_172 ?_
                          obtain ⟨r436, g_r436, h⟩ := ob_some h
                          refine cl_MD_139 (rest := []) C (hml.trans hl.1.symm) hW.1 g_r436 ⟨Nat.le_of_ble_eq_true rfl, Nat.le_of_ble_eq_true rfl⟩ (Nat.le_of_ble_eq_true rfl) d_MD_planned_173 ⟨Nat.zero_le _, Nat.zero_le _⟩ ?_
                          refine lv_if_eq (tgt := 183) hx hb d_MD_planned_176 (by decide) (fun c437 => ?_) (fun c437 => ?_)
                          · rw [if_pos c437] at h
                            refine lv_iconst (v := 0) hx hb d_MD_planned_183 (by decide) ?_
                            refine lv_istore (lv' := [(5, .int 0), (0, .ref (ad 0)), (2, .int x2), (3, .int x3), (4, .int x4), (6, .int x6)]) hx hb d_MD_planned_184 hl (by decide) rfl (fun ls hl => ?_)
                            refine lv_iinc (v := x6 + 1) (lv' := [(6, .int (x6 + 1)), (5, .int 0), (0, .ref (ad 0)), (2, .int x2), (3, .int x3), (4, .int x4)]) hx hb d_MD_planned_186 hl (k := 5) rfl rfl (by decide) rfl (fun ls hl => ?_)
                            refine lv_goto (tgt := 132) hx hb d_MD_planned_189 (by decide) ?_
                            exact ih132 x2 x3 x4 0 (x6 + 1) σ h _ _ hW _ (lv_sub hl [2, 3, 4, 5, 1, 0] rfl)
                          · rw [if_neg c437] at h
                            refine lv_iconst (v := 1) hx hb d_MD_planned_179 (by decide) ?_
                            refine lv_goto (tgt := 184) hx hb d_MD_planned_180 (by decide) ?_
                            refine lv_istore (lv' := [(5, .int 1), (0, .ref (ad 0)), (2, .int x2), (3, .int x3), (4, .int x4), (6, .int x6)]) hx hb d_MD_planned_184 hl (by decide) rfl (fun ls hl => ?_)
                            refine lv_iinc (v := x6 + 1) (lv' := [(6, .int (x6 + 1)), (5, .int 1), (0, .ref (ad 0)), (2, .int x2), (3, .int x3), (4, .int x4)]) hx hb d_MD_planned_186 hl (k := 5) rfl rfl (by decide) rfl (fun ls hl => ?_)
                            refine lv_goto (tgt := 132) hx hb d_MD_planned_189 (by decide) ?_
                            exact ih132 x2 x3 x4 1 (x6 + 1) σ h _ _ hW _ (lv_sub hl [2, 3, 4, 5, 1, 0] rfl)
                exact k132 _ x2 x3 x4 r431 0 σ430 h _ _ hW _ (lv_sub hl [2, 4, 5, 6, 1, 0] rfl)
              · rw [if_pos c425] at h
                refine lv_iconst (v := 0) hx hb d_MD_planned_68 (by decide) ?_
                exact W.iret hx hb hr (fun t ht _ => qr_i h ht hW) hW.2.2.2 d_MD_planned_69
            exact k62 x1 x2 x3 x4 0 0 s0 σ h _ _ hW _ (lv_sub hl [0, 1, 2, 3, 4] rfl)
          · rw [if_neg c404] at h
            refine lv_iconst (v := 1) hx hb d_MD_planned_57 (by decide) ?_
            refine lv_goto (tgt := 62) hx hb d_MD_planned_58 (by decide) ?_
            have k62 : ∀ (x1 : Int32) (x2 : Int32) (x3 : Int32) (x4 : Int32) (s0 : Int32) (s1 : Int32) (s2 : Int32) (σ : Sg) (h : C_MD_planned_62 x1 x2 x3 x4 s0 s1 s2 σ = some out) (H : Heap) (locs : List Loc) (hW : WR G ad cI cZ s σ H locs) (ls : Array Slot) (hl : lv_has ls 7 [(0, .ref (ad 0)), (1, .int x1), (2, .int x2), (3, .int x3), (4, .int x4)]), W p l e (headSpec wl_MD_planned ({ frames := 4, cells := 0, slots := 0, locals := 97 } : Room)).room s m (([.ref (ad 0), .int a1, .int a2, .int a3, .int a4] : List Value).toArray) below meth c H locs 0 0 (MQ below (QRi G ad cI cZ out) (([.ref (ad 0), .int a1, .int a2, .int a3, .int a4] : List Value).toArray) s 0 0 (AR ad)) (F0 m 62 ls [.int s0, .int s1, .int s2, .ref (ad 0)]) := by
              intro x1 x2 x3 x4 s0 s1 s2 σ h H locs hW ls hl
              unfold C_MD_planned_62 at h
              obtain ⟨r405, g_r405, h⟩ := ob_some h
              refine cl_MD_102 (rest := []) C hD (hml.trans hl.1.symm) hW g_r405 ⟨Nat.le_of_ble_eq_true rfl, Nat.le_of_ble_eq_true rfl⟩ (Nat.le_of_ble_eq_true rfl) d_MD_planned_62 ⟨Nat.zero_le _, Nat.zero_le _⟩ (fun H locs hW => ?_)
              refine lv_if_ne (tgt := 70) hx hb d_MD_planned_65 (by decide) (fun c406 => ?_) (fun c406 => ?_)
              · rw [if_neg c406] at h
                refine lv_aload_n hx hb d_MD_planned_70 rfl (lv_at hl 0 rfl) ?_
                refine gf_MD_59 C hW.1 d_MD_planned_71 ?_
                refine lv_aload_n hx hb d_MD_planned_74 rfl (lv_at hl 0 rfl) ?_
                refine gf_MD_123 C hW.1 d_MD_planned_75 ?_
                refine lv_iload_n hx hb d_MD_planned_78 rfl (lv_at hl 1 rfl) ?_
                obtain ⟨hin, h⟩ := gd_some h
                refine asR_17 C hD hW hin d_MD_planned_79 (fun H locs hW => ?_)
                obtain ⟨σ407, e_σ407, h⟩ := lt1_some h
                rw [← e_σ407] at hW
                refine lv_aload_n hx hb d_MD_planned_80 rfl (lv_at hl 0 rfl) ?_
                refine gf_MD_62 C hW.1 d_MD_planned_81 ?_
                refine lv_aload_n hx hb d_MD_planned_84 rfl (lv_at hl 0 rfl) ?_
                refine gf_MD_123 C hW.1 d_MD_planned_85 ?_
                refine lv_iload_n hx hb d_MD_planned_88 rfl (lv_at hl 2 rfl) ?_
                obtain ⟨hin, h⟩ := gd_some h
                refine asR_18 C hD hW hin d_MD_planned_89 (fun H locs hW => ?_)
                obtain ⟨σ408, e_σ408, h⟩ := lt1_some h
                rw [← e_σ408] at hW
                refine lv_aload_n hx hb d_MD_planned_90 rfl (lv_at hl 0 rfl) ?_
                refine gf_MD_65 C hW.1 d_MD_planned_91 ?_
                refine lv_aload_n hx hb d_MD_planned_94 rfl (lv_at hl 0 rfl) ?_
                refine gf_MD_123 C hW.1 d_MD_planned_95 ?_
                refine lv_iload_n hx hb d_MD_planned_98 rfl (lv_at hl 3 rfl) ?_
                obtain ⟨hin, h⟩ := gd_some h
                refine asR_19 C hD hW hin d_MD_planned_99 (fun H locs hW => ?_)
                obtain ⟨σ409, e_σ409, h⟩ := lt1_some h
                rw [← e_σ409] at hW
                refine lv_aload_n hx hb d_MD_planned_100 rfl (lv_at hl 0 rfl) ?_
                refine gf_MD_68 C hW.1 d_MD_planned_101 ?_
                refine lv_aload_n hx hb d_MD_planned_104 rfl (lv_at hl 0 rfl) ?_
                refine gf_MD_123 C hW.1 d_MD_planned_105 ?_
                refine lv_iload hx hb d_MD_planned_108 (lv_at hl 4 rfl) ?_
                obtain ⟨hin, h⟩ := gd_some h
                refine asR_20 C hD hW hin d_MD_planned_110 (fun H locs hW => ?_)
                obtain ⟨σ410, e_σ410, h⟩ := lt1_some h
                rw [← e_σ410] at hW
                refine lv_aload_n hx hb d_MD_planned_111 rfl (lv_at hl 0 rfl) ?_
                refine lv_dup hx hb d_MD_planned_112 rfl ?_
                refine gf_MD_123 C hW.1 d_MD_planned_113 ?_
                refine lv_iconst (v := 1) hx hb d_MD_planned_116 (by decide) ?_
                refine lv_iadd hx hb d_MD_planned_117 ?_
                refine pf_MD_123 C hD hW d_MD_planned_118 (fun H locs hW => ?_)
                obtain ⟨σ411, e_σ411, h⟩ := lt1_some h
                rw [← e_σ411] at hW
                refine lv_aload_n hx hb d_MD_planned_121 rfl (lv_at hl 0 rfl) ?_
                refine lv_iload_n hx hb d_MD_planned_122 rfl (lv_at hl 2 rfl) ?_
                refine lv_iload_n hx hb d_MD_planned_123 rfl (lv_at hl 3 rfl) ?_
                obtain ⟨r412, g_r412, h⟩ := ob_some h
                refine cl_MD_139 (rest := []) C (hml.trans hl.1.symm) hW.1 g_r412 ⟨Nat.le_of_ble_eq_true rfl, Nat.le_of_ble_eq_true rfl⟩ (Nat.le_of_ble_eq_true rfl) d_MD_planned_124 ⟨Nat.zero_le _, Nat.zero_le _⟩ ?_
                refine lv_istore (lv' := [(5, .int r412), (0, .ref (ad 0)), (1, .int x1), (2, .int x2), (3, .int x3), (4, .int x4)]) hx hb d_MD_planned_127 hl (by decide) rfl (fun ls hl => ?_)
                refine lv_iconst (v := 0) hx hb d_MD_planned_129 (by decide) ?_
                refine lv_istore (lv' := [(6, .int 0), (5, .int r412), (0, .ref (ad 0)), (1, .int x1), (2, .int x2), (3, .int x3), (4, .int x4)]) hx hb d_MD_planned_130 hl (by decide) rfl (fun ls hl => ?_)
                have k132 : ∀ (n132 : Nat) (x2 : Int32) (x3 : Int32) (x4 : Int32) (x5 : Int32) (x6 : Int32) (σ : Sg) (h : L_MD_planned_132 n132 x2 x3 x4 x5 x6 σ = some out) (H : Heap) (locs : List Loc) (hW : WR G ad cI cZ s σ H locs) (ls : Array Slot) (hl : lv_has ls 7 [(0, .ref (ad 0)), (2, .int x2), (3, .int x3), (4, .int x4), (5, .int x5), (6, .int x6)]), W p l e (headSpec wl_MD_planned ({ frames := 4, cells := 0, slots := 0, locals := 97 } : Room)).room s m (([.ref (ad 0), .int a1, .int a2, .int a3, .int a4] : List Value).toArray) below meth c H locs 0 0 (MQ below (QRi G ad cI cZ out) (([.ref (ad 0), .int a1, .int a2, .int a3, .int a4] : List Value).toArray) s 0 0 (AR ad)) (F0 m 132 ls []) := by
                  intro n132
                  induction n132 with
                  | zero =>
                    intro x2 x3 x4 x5 x6 σ h
                    exact absurd h (by intro z; cases z)
                  | succ n132 ih132 =>
                    intro x2 x3 x4 x5 x6 σ h H locs hW ls hl
                    replace h : B_MD_planned_132 (L_MD_planned_132 n132) x2 x3 x4 x5 x6 σ = some out := h
                    unfold B_MD_planned_132 at h
                    refine lv_iload hx hb d_MD_planned_132 (lv_at hl 5 rfl) ?_
                    refine lv_aload_n hx hb d_MD_planned_134 rfl (lv_at hl 0 rfl) ?_
                    refine gf_MD_123 C hW.1 d_MD_planned_135 ?_
                    refine lv_iconst (v := 1) hx hb d_MD_planned_138 (by decide) ?_
                    refine lv_isub hx hb d_MD_planned_139 ?_
                    refine lv_icmp_ge (tgt := 192) hx hb d_MD_planned_140 (by decide) (fun c413 => ?_) (fun c413 => ?_)
                    · rw [if_pos c413] at h
                      refine lv_aload_n hx hb d_MD_planned_192 rfl (lv_at hl 0 rfl) ?_
                      refine lv_iload hx hb d_MD_planned_193 (lv_at hl 4 rfl) ?_
                      refine lv_if_eq (tgt := 205) hx hb d_MD_planned_195 (by decide) (fun c419 => ?_) (fun c419 => ?_)
                      · rw [if_pos c419] at h
                        refine lv_aload_n hx hb d_MD_planned_205 rfl (lv_at hl 0 rfl) ?_
                        refine gf_MD_123 C hW.1 d_MD_planned_206 ?_
                        refine lv_iconst (v := 1) hx hb d_MD_planned_209 (by decide) ?_
                        refine lv_isub hx hb d_MD_planned_210 ?_
                        refine pf_MD_123 C hD hW d_MD_planned_211 (fun H locs hW => ?_)
                        obtain ⟨σ422, e_σ422, h⟩ := lt1_some h
                        rw [← e_σ422] at hW
                        refine lv_iload hx hb d_MD_planned_214 (lv_at hl 4 rfl) ?_
                        refine lv_if_eq (tgt := 223) hx hb d_MD_planned_216 (by decide) (fun c423 => ?_) (fun c423 => ?_)
                        · rw [if_pos c423] at h
                          refine lv_iconst (v := 1) hx hb d_MD_planned_223 (by decide) ?_
                          exact W.iret hx hb hr (fun t ht _ => qr_i h ht hW) hW.2.2.2 d_MD_planned_224
                        · rw [if_neg c423] at h
                          refine lv_iconst (v := 0) hx hb d_MD_planned_219 (by decide) ?_
                          refine lv_goto (tgt := 224) hx hb d_MD_planned_220 (by decide) ?_
                          exact W.iret hx hb hr (fun t ht _ => qr_i h ht hW) hW.2.2.2 d_MD_planned_224
                      · rw [if_neg c419] at h
                        refine lv_aload_n hx hb d_MD_planned_198 rfl (lv_at hl 0 rfl) ?_
                        refine gf_MD_123 C hW.1 d_MD_planned_199 ?_
                        refine lv_goto (tgt := 211) hx hb d_MD_planned_202 (by decide) ?_
                        refine pf_MD_123 C hD hW d_MD_planned_211 (fun H locs hW => ?_)
                        obtain ⟨σ420, e_σ420, h⟩ := lt1_some h
                        rw [← e_σ420] at hW
                        refine lv_iload hx hb d_MD_planned_214 (lv_at hl 4 rfl) ?_
                        refine lv_if_eq (tgt := 223) hx hb d_MD_planned_216 (by decide) (fun c421 => ?_) (fun c421 => ?_)
                        · rw [if_pos c421] at h
                          refine lv_iconst (v := 1) hx hb d_MD_planned_223 (by decide) ?_
                          exact W.iret hx hb hr (fun t ht _ => qr_i h ht hW) hW.2.2.2 d_MD_planned_224
                        · rw [if_neg c421] at h
                          refine lv_iconst (v := 0) hx hb d_MD_planned_219 (by decide) ?_
                          refine lv_goto (tgt := 224) hx hb d_MD_planned_220 (by decide) ?_
                          exact W.iret hx hb hr (fun t ht _ => qr_i h ht hW) hW.2.2.2 d_MD_planned_224
                    · rw [if_neg c413] at h
                      refine lv_iload hx hb d_MD_planned_143 (lv_at hl 4 rfl) ?_
                      refine lv_if_eq (tgt := 183) hx hb d_MD_planned_145 (by decide) (fun c414 => ?_) (fun c414 => ?_)
                      · rw [if_pos c414] at h
                        refine lv_iconst (v := 0) hx hb d_MD_planned_183 (by decide) ?_
                        refine lv_istore (lv' := [(5, .int 0), (0, .ref (ad 0)), (2, .int x2), (3, .int x3), (4, .int x4), (6, .int x6)]) hx hb d_MD_planned_184 hl (by decide) rfl (fun ls hl => ?_)
                        refine lv_iinc (v := x6 + 1) (lv' := [(6, .int (x6 + 1)), (5, .int 0), (0, .ref (ad 0)), (2, .int x2), (3, .int x3), (4, .int x4)]) hx hb d_MD_planned_186 hl (k := 5) rfl rfl (by decide) rfl (fun ls hl => ?_)
                        refine lv_goto (tgt := 132) hx hb d_MD_planned_189 (by decide) ?_
                        exact ih132 x2 x3 x4 0 (x6 + 1) σ h _ _ hW _ (lv_sub hl [2, 3, 4, 5, 1, 0] rfl)
                      · rw [if_neg c414] at h
                        refine lv_aload_n hx hb d_MD_planned_148 rfl (lv_at hl 0 rfl) ?_
                        refine gf_MD_65 C hW.1 d_MD_planned_149 ?_
                        refine lv_iload hx hb d_MD_planned_152 (lv_at hl 5 rfl) ?_
                        obtain ⟨hin, h⟩ := gd_some h
                        refine alR_19 C hW.1 hin d_MD_planned_154 ?_
                        refine lv_iload_n hx hb d_MD_planned_155 rfl (lv_at hl 2 rfl) ?_
                        refine lv_iload hx hb d_MD_planned_156 (lv_at hl 3 rfl) ?_
                        obtain ⟨r415, g_r415, h⟩ := ob_some h
                        refine cl_MD_98 (rest := []) C (hml.trans hl.1.symm) hW.1 g_r415 ⟨Nat.le_of_ble_eq_true rfl, Nat.le_of_ble_eq_true rfl⟩ (Nat.le_of_ble_eq_true rfl) d_MD_planned_158 ⟨Nat.zero_le _, Nat.zero_le _⟩ ?_
                        refine lv_if_eq (tgt := 179) hx hb d_MD_planned_161 (by decide) (fun c416 => ?_) (fun c416 => ?_)
                        · rw [if_pos c416] at h
                          refine lv_iconst (v := 1) hx hb d_MD_planned_179 (by decide) ?_
                          refine lv_goto (tgt := 184) hx hb d_MD_planned_180 (by decide) ?_
                          refine lv_istore (lv' := [(5, .int 1), (0, .ref (ad 0)), (2, .int x2), (3, .int x3), (4, .int x4), (6, .int x6)]) hx hb d_MD_planned_184 hl (by decide) rfl (fun ls hl => ?_)
                          refine lv_iinc (v := x6 + 1) (lv' := [(6, .int (x6 + 1)), (5, .int 1), (0, .ref (ad 0)), (2, .int x2), (3, .int x3), (4, .int x4)]) hx hb d_MD_planned_186 hl (k := 5) rfl rfl (by decide) rfl (fun ls hl => ?_)
                          refine lv_goto (tgt := 132) hx hb d_MD_planned_189 (by decide) ?_
                          exact ih132 x2 x3 x4 1 (x6 + 1) σ h _ _ hW _ (lv_sub hl [2, 3, 4, 5, 1, 0] rfl)
                        · rw [if_neg c416] at h
                          refine lv_aload_n hx hb d_MD_planned_164 rfl (lv_at hl 0 rfl) ?_
                          refine lv_iload_n hx hb d_MD_planned_165 rfl (lv_at hl 1 rfl) ?_
                          refine lv_aload_n hx hb d_MD_planned_166 rfl (lv_at hl 0 rfl) ?_
                          refine gf_MD_65 C hW.1 d_MD_planned_167 ?_
                          refine lv_iload hx hb d_MD_planned_170 (lv_at hl 5 rfl) ?_
                          obtain ⟨hin, h⟩ := gd_some h
                          refine alR_19 C hW.1 hin d_MD_planned_172 ?_
                          obtain ⟨r417, g_r417, h⟩ := ob_some h
                          refine cl_MD_139 (rest := []) C (hml.trans hl.1.symm) hW.1 g_r417 ⟨Nat.le_of_ble_eq_true rfl, Nat.le_of_ble_eq_true rfl⟩ (Nat.le_of_ble_eq_true rfl) d_MD_planned_173 ⟨Nat.zero_le _, Nat.zero_le _⟩ ?_
                          refine lv_if_eq (tgt := 183) hx hb d_MD_planned_176 (by decide) (fun c418 => ?_) (fun c418 => ?_)
                          · rw [if_pos c418] at h
                            refine lv_iconst (v := 0) hx hb d_MD_planned_183 (by decide) ?_
                            refine lv_istore (lv' := [(5, .int 0), (0, .ref (ad 0)), (2, .int x2), (3, .int x3), (4, .int x4), (6, .int x6)]) hx hb d_MD_planned_184 hl (by decide) rfl (fun ls hl => ?_)
                            refine lv_iinc (v := x6 + 1) (lv' := [(6, .int (x6 + 1)), (5, .int 0), (0, .ref (ad 0)), (2, .int x2), (3, .int x3), (4, .int x4)]) hx hb d_MD_planned_186 hl (k := 5) rfl rfl (by decide) rfl (fun ls hl => ?_)
                            refine lv_goto (tgt := 132) hx hb d_MD_planned_189 (by decide) ?_
                            exact ih132 x2 x3 x4 0 (x6 + 1) σ h _ _ hW _ (lv_sub hl [2, 3, 4, 5, 1, 0] rfl)
                          · rw [if_neg c418] at h
                            refine lv_iconst (v := 1) hx hb d_MD_planned_179 (by decide) ?_
                            refine lv_goto (tgt := 184) hx hb d_MD_planned_180 (by decide) ?_
                            refine lv_istore (lv' := [(5, .int 1), (0, .ref (ad 0)), (2, .int x2), (3, .int x3), (4, .int x4), (6, .int x6)]) hx hb d_MD_planned_184 hl (by decide) rfl (fun ls hl => ?_)
                            refine lv_iinc (v := x6 + 1) (lv' := [(6, .int (x6 + 1)), (5, .int 1), (0, .ref (ad 0)), (2, .int x2), (3, .int x3), (4, .int x4)]) hx hb d_MD_planned_186 hl (k := 5) rfl rfl (by decide) rfl (fun ls hl => ?_)
                            refine lv_goto (tgt := 132) hx hb d_MD_planned_189 (by decide) ?_
                            exact ih132 x2 x3 x4 1 (x6 + 1) σ h _ _ hW _ (lv_sub hl [2, 3, 4, 5, 1, 0] rfl)
                exact k132 _ x2 x3 x4 r412 0 σ411 h _ _ hW _ (lv_sub hl [2, 4, 5, 6, 1, 0] rfl)
              · rw [if_pos c406] at h
                refine lv_iconst (v := 0) hx hb d_MD_planned_68 (by decide) ?_
                exact W.iret hx hb hr (fun t ht _ => qr_i h ht hW) hW.2.2.2 d_MD_planned_69
            exact k62 x1 x2 x3 x4 1 0 s0 σ h _ _ hW _ (lv_sub hl [0, 1, 2, 3, 4] rfl)
        · rw [if_neg c324] at h
          refine lv_iload hx hb d_MD_planned_36 (lv_at hl 4 rfl) ?_
          refine lv_ldc (v := 1000000) hx hb hown (hts _ w_724) d_MD_planned_38 ?_
          refine lv_icmp_gt (tgt := 47) hx hb d_MD_planned_40 (by decide) (fun c325 => ?_) (fun c325 => ?_)
          · rw [if_pos c325] at h
            refine lv_iconst (v := 0) hx hb d_MD_planned_47 (by decide) ?_
            refine lv_aload_n hx hb d_MD_planned_48 rfl (lv_at hl 0 rfl) ?_
            refine gf_MD_123 C hW.1 d_MD_planned_49 ?_
            refine lv_bipush (v := 30) hx hb d_MD_planned_52 (by decide) ?_
            refine lv_icmp_ge (tgt := 61) hx hb d_MD_planned_54 (by decide) (fun c365 => ?_) (fun c365 => ?_)
            · rw [if_pos c365] at h
              refine lv_iconst (v := 0) hx hb d_MD_planned_61 (by decide) ?_
              have k62 : ∀ (x1 : Int32) (x2 : Int32) (x3 : Int32) (x4 : Int32) (s0 : Int32) (s1 : Int32) (s2 : Int32) (σ : Sg) (h : C_MD_planned_62 x1 x2 x3 x4 s0 s1 s2 σ = some out) (H : Heap) (locs : List Loc) (hW : WR G ad cI cZ s σ H locs) (ls : Array Slot) (hl : lv_has ls 7 [(0, .ref (ad 0)), (1, .int x1), (2, .int x2), (3, .int x3), (4, .int x4)]), W p l e (headSpec wl_MD_planned ({ frames := 4, cells := 0, slots := 0, locals := 97 } : Room)).room s m (([.ref (ad 0), .int a1, .int a2, .int a3, .int a4] : List Value).toArray) below meth c H locs 0 0 (MQ below (QRi G ad cI cZ out) (([.ref (ad 0), .int a1, .int a2, .int a3, .int a4] : List Value).toArray) s 0 0 (AR ad)) (F0 m 62 ls [.int s0, .int s1, .int s2, .ref (ad 0)]) := by
                intro x1 x2 x3 x4 s0 s1 s2 σ h H locs hW ls hl
                unfold C_MD_planned_62 at h
                obtain ⟨r385, g_r385, h⟩ := ob_some h
                refine cl_MD_102 (rest := []) C hD (hml.trans hl.1.symm) hW g_r385 ⟨Nat.le_of_ble_eq_true rfl, Nat.le_of_ble_eq_true rfl⟩ (Nat.le_of_ble_eq_true rfl) d_MD_planned_62 ⟨Nat.zero_le _, Nat.zero_le _⟩ (fun H locs hW => ?_)
                refine lv_if_ne (tgt := 70) hx hb d_MD_planned_65 (by decide) (fun c386 => ?_) (fun c386 => ?_)
                · rw [if_neg c386] at h
                  refine lv_aload_n hx hb d_MD_planned_70 rfl (lv_at hl 0 rfl) ?_
                  refine gf_MD_59 C hW.1 d_MD_planned_71 ?_
                  refine lv_aload_n hx hb d_MD_planned_74 rfl (lv_at hl 0 rfl) ?_
                  refine gf_MD_123 C hW.1 d_MD_planned_75 ?_
                  refine lv_iload_n hx hb d_MD_planned_78 rfl (lv_at hl 1 rfl) ?_
                  obtain ⟨hin, h⟩ := gd_some h
                  refine asR_17 C hD hW hin d_MD_planned_79 (fun H locs hW => ?_)
                  obtain ⟨σ387, e_σ387, h⟩ := lt1_some h
                  rw [← e_σ387] at hW
                  refine lv_aload_n hx hb d_MD_planned_80 rfl (lv_at hl 0 rfl) ?_
                  refine gf_MD_62 C hW.1 d_MD_planned_81 ?_
                  refine lv_aload_n hx hb d_MD_planned_84 rfl (lv_at hl 0 rfl) ?_
                  refine gf_MD_123 C hW.1 d_MD_planned_85 ?_
                  refine lv_iload_n hx hb d_MD_planned_88 rfl (lv_at hl 2 rfl) ?_
                  obtain ⟨hin, h⟩ := gd_some h
                  refine asR_18 C hD hW hin d_MD_planned_89 (fun H locs hW => ?_)
                  obtain ⟨σ388, e_σ388, h⟩ := lt1_some h
                  rw [← e_σ388] at hW
                  refine lv_aload_n hx hb d_MD_planned_90 rfl (lv_at hl 0 rfl) ?_
                  refine gf_MD_65 C hW.1 d_MD_planned_91 ?_
                  refine lv_aload_n hx hb d_MD_planned_94 rfl (lv_at hl 0 rfl) ?_
                  refine gf_MD_123 C hW.1 d_MD_planned_95 ?_
                  refine lv_iload_n hx hb d_MD_planned_98 rfl (lv_at hl 3 rfl) ?_
                  obtain ⟨hin, h⟩ := gd_some h
                  refine asR_19 C hD hW hin d_MD_planned_99 (fun H locs hW => ?_)
                  obtain ⟨σ389, e_σ389, h⟩ := lt1_some h
                  rw [← e_σ389] at hW
                  refine lv_aload_n hx hb d_MD_planned_100 rfl (lv_at hl 0 rfl) ?_
                  refine gf_MD_68 C hW.1 d_MD_planned_101 ?_
                  refine lv_aload_n hx hb d_MD_planned_104 rfl (lv_at hl 0 rfl) ?_
                  refine gf_MD_123 C hW.1 d_MD_planned_105 ?_
                  refine lv_iload hx hb d_MD_planned_108 (lv_at hl 4 rfl) ?_
                  obtain ⟨hin, h⟩ := gd_some h
                  refine asR_20 C hD hW hin d_MD_planned_110 (fun H locs hW => ?_)
                  obtain ⟨σ390, e_σ390, h⟩ := lt1_some h
                  rw [← e_σ390] at hW
                  refine lv_aload_n hx hb d_MD_planned_111 rfl (lv_at hl 0 rfl) ?_
                  refine lv_dup hx hb d_MD_planned_112 rfl ?_
                  refine gf_MD_123 C hW.1 d_MD_planned_113 ?_
                  refine lv_iconst (v := 1) hx hb d_MD_planned_116 (by decide) ?_
                  refine lv_iadd hx hb d_MD_planned_117 ?_
                  refine pf_MD_123 C hD hW d_MD_planned_118 (fun H locs hW => ?_)
                  obtain ⟨σ391, e_σ391, h⟩ := lt1_some h
                  rw [← e_σ391] at hW
                  refine lv_aload_n hx hb d_MD_planned_121 rfl (lv_at hl 0 rfl) ?_
                  refine lv_iload_n hx hb d_MD_planned_122 rfl (lv_at hl 2 rfl) ?_
                  refine lv_iload_n hx hb d_MD_planned_123 rfl (lv_at hl 3 rfl) ?_
                  obtain ⟨r392, g_r392, h⟩ := ob_some h
                  refine cl_MD_139 (rest := []) C (hml.trans hl.1.symm) hW.1 g_r392 ⟨Nat.le_of_ble_eq_true rfl, Nat.le_of_ble_eq_true rfl⟩ (Nat.le_of_ble_eq_true rfl) d_MD_planned_124 ⟨Nat.zero_le _, Nat.zero_le _⟩ ?_
                  refine lv_istore (lv' := [(5, .int r392), (0, .ref (ad 0)), (1, .int x1), (2, .int x2), (3, .int x3), (4, .int x4)]) hx hb d_MD_planned_127 hl (by decide) rfl (fun ls hl => ?_)
                  refine lv_iconst (v := 0) hx hb d_MD_planned_129 (by decide) ?_
                  refine lv_istore (lv' := [(6, .int 0), (5, .int r392), (0, .ref (ad 0)), (1, .int x1), (2, .int x2), (3, .int x3), (4, .int x4)]) hx hb d_MD_planned_130 hl (by decide) rfl (fun ls hl => ?_)
                  have k132 : ∀ (n132 : Nat) (x2 : Int32) (x3 : Int32) (x4 : Int32) (x5 : Int32) (x6 : Int32) (σ : Sg) (h : L_MD_planned_132 n132 x2 x3 x4 x5 x6 σ = some out) (H : Heap) (locs : List Loc) (hW : WR G ad cI cZ s σ H locs) (ls : Array Slot) (hl : lv_has ls 7 [(0, .ref (ad 0)), (2, .int x2), (3, .int x3), (4, .int x4), (5, .int x5), (6, .int x6)]), W p l e (headSpec wl_MD_planned ({ frames := 4, cells := 0, slots := 0, locals := 97 } : Room)).room s m (([.ref (ad 0), .int a1, .int a2, .int a3, .int a4] : List Value).toArray) below meth c H locs 0 0 (MQ below (QRi G ad cI cZ out) (([.ref (ad 0), .int a1, .int a2, .int a3, .int a4] : List Value).toArray) s 0 0 (AR ad)) (F0 m 132 ls []) := by
                    intro n132
                    induction n132 with
                    | zero =>
                      intro x2 x3 x4 x5 x6 σ h
                      exact absurd h (by intro z; cases z)
                    | succ n132 ih132 =>
                      intro x2 x3 x4 x5 x6 σ h H locs hW ls hl
                      replace h : B_MD_planned_132 (L_MD_planned_132 n132) x2 x3 x4 x5 x6 σ = some out := h
                      unfold B_MD_planned_132 at h
                      refine lv_iload hx hb d_MD_planned_132 (lv_at hl 5 rfl) ?_
                      refine lv_aload_n hx hb d_MD_planned_134 rfl (lv_at hl 0 rfl) ?_
                      refine gf_MD_123 C hW.1 d_MD_planned_135 ?_
                      refine lv_iconst (v := 1) hx hb d_MD_planned_138 (by decide) ?_
                      refine lv_isub hx hb d_MD_planned_139 ?_
                      refine lv_icmp_ge (tgt := 192) hx hb d_MD_planned_140 (by decide) (fun c393 => ?_) (fun c393 => ?_)
                      · rw [if_pos c393] at h
                        refine lv_aload_n hx hb d_MD_planned_192 rfl (lv_at hl 0 rfl) ?_
                        refine lv_iload hx hb d_MD_planned_193 (lv_at hl 4 rfl) ?_
                        refine lv_if_eq (tgt := 205) hx hb d_MD_planned_195 (by decide) (fun c399 => ?_) (fun c399 => ?_)
                        · rw [if_pos c399] at h
                          refine lv_aload_n hx hb d_MD_planned_205 rfl (lv_at hl 0 rfl) ?_
                          refine gf_MD_123 C hW.1 d_MD_planned_206 ?_
                          refine lv_iconst (v := 1) hx hb d_MD_planned_209 (by decide) ?_
                          refine lv_isub hx hb d_MD_planned_210 ?_
                          refine pf_MD_123 C hD hW d_MD_planned_211 (fun H locs hW => ?_)
                          obtain ⟨σ402, e_σ402, h⟩ := lt1_some h
                          rw [← e_σ402] at hW
                          refine lv_iload hx hb d_MD_planned_214 (lv_at hl 4 rfl) ?_
                          refine lv_if_eq (tgt := 223) hx hb d_MD_planned_216 (by decide) (fun c403 => ?_) (fun c403 => ?_)
                          · rw [if_pos c403] at h
                            refine lv_iconst (v := 1) hx hb d_MD_planned_223 (by decide) ?_
                            exact W.iret hx hb hr (fun t ht _ => qr_i h ht hW) hW.2.2.2 d_MD_planned_224
                          · rw [if_neg c403] at h
                            refine lv_iconst (v := 0) hx hb d_MD_planned_219 (by decide) ?_
                            refine lv_goto (tgt := 224) hx hb d_MD_planned_220 (by decide) ?_
                            exact W.iret hx hb hr (fun t ht _ => qr_i h ht hW) hW.2.2.2 d_MD_planned_224
                        · rw [if_neg c399] at h
                          refine lv_aload_n hx hb d_MD_planned_198 rfl (lv_at hl 0 rfl) ?_
                          refine gf_MD_123 C hW.1 d_MD_planned_199 ?_
                          refine lv_goto (tgt := 211) hx hb d_MD_planned_202 (by decide) ?_
                          refine pf_MD_123 C hD hW d_MD_planned_211 (fun H locs hW => ?_)
                          obtain ⟨σ400, e_σ400, h⟩ := lt1_some h
                          rw [← e_σ400] at hW
                          refine lv_iload hx hb d_MD_planned_214 (lv_at hl 4 rfl) ?_
                          refine lv_if_eq (tgt := 223) hx hb d_MD_planned_216 (by decide) (fun c401 => ?_) (fun c401 => ?_)
                          · rw [if_pos c401] at h
                            refine lv_iconst (v := 1) hx hb d_MD_planned_223 (by decide) ?_
                            exact W.iret hx hb hr (fun t ht _ => qr_i h ht hW) hW.2.2.2 d_MD_planned_224
                          · rw [if_neg c401] at h
                            refine lv_iconst (v := 0) hx hb d_MD_planned_219 (by decide) ?_
                            refine lv_goto (tgt := 224) hx hb d_MD_planned_220 (by decide) ?_
                            exact W.iret hx hb hr (fun t ht _ => qr_i h ht hW) hW.2.2.2 d_MD_planned_224
                      · rw [if_neg c393] at h
                        refine lv_iload hx hb d_MD_planned_143 (lv_at hl 4 rfl) ?_
                        refine lv_if_eq (tgt := 183) hx hb d_MD_planned_145 (by decide) (fun c394 => ?_) (fun c394 => ?_)
                        · rw [if_pos c394] at h
                          refine lv_iconst (v := 0) hx hb d_MD_planned_183 (by decide) ?_
                          refine lv_istore (lv' := [(5, .int 0), (0, .ref (ad 0)), (2, .int x2), (3, .int x3), (4, .int x4), (6, .int x6)]) hx hb d_MD_planned_184 hl (by decide) rfl (fun ls hl => ?_)
                          refine lv_iinc (v := x6 + 1) (lv' := [(6, .int (x6 + 1)), (5, .int 0), (0, .ref (ad 0)), (2, .int x2), (3, .int x3), (4, .int x4)]) hx hb d_MD_planned_186 hl (k := 5) rfl rfl (by decide) rfl (fun ls hl => ?_)
                          refine lv_goto (tgt := 132) hx hb d_MD_planned_189 (by decide) ?_
                          exact ih132 x2 x3 x4 0 (x6 + 1) σ h _ _ hW _ (lv_sub hl [2, 3, 4, 5, 1, 0] rfl)
                        · rw [if_neg c394] at h
                          refine lv_aload_n hx hb d_MD_planned_148 rfl (lv_at hl 0 rfl) ?_
                          refine gf_MD_65 C hW.1 d_MD_planned_149 ?_
                          refine lv_iload hx hb d_MD_planned_152 (lv_at hl 5 rfl) ?_
                          obtain ⟨hin, h⟩ := gd_some h
                          refine alR_19 C hW.1 hin d_MD_planned_154 ?_
                          refine lv_iload_n hx hb d_MD_planned_155 rfl (lv_at hl 2 rfl) ?_
                          refine lv_iload hx hb d_MD_planned_156 (lv_at hl 3 rfl) ?_
                          obtain ⟨r395, g_r395, h⟩ := ob_some h
                          refine cl_MD_98 (rest := []) C (hml.trans hl.1.symm) hW.1 g_r395 ⟨Nat.le_of_ble_eq_true rfl, Nat.le_of_ble_eq_true rfl⟩ (Nat.le_of_ble_eq_true rfl) d_MD_planned_158 ⟨Nat.zero_le _, Nat.zero_le _⟩ ?_
                          refine lv_if_eq (tgt := 179) hx hb d_MD_planned_161 (by decide) (fun c396 => ?_) (fun c396 => ?_)
                          · rw [if_pos c396] at h
                            refine lv_iconst (v := 1) hx hb d_MD_planned_179 (by decide) ?_
                            refine lv_goto (tgt := 184) hx hb d_MD_planned_180 (by decide) ?_
                            refine lv_istore (lv' := [(5, .int 1), (0, .ref (ad 0)), (2, .int x2), (3, .int x3), (4, .int x4), (6, .int x6)]) hx hb d_MD_planned_184 hl (by decide) rfl (fun ls hl => ?_)
                            refine lv_iinc (v := x6 + 1) (lv' := [(6, .int (x6 + 1)), (5, .int 1), (0, .ref (ad 0)), (2, .int x2), (3, .int x3), (4, .int x4)]) hx hb d_MD_planned_186 hl (k := 5) rfl rfl (by decide) rfl (fun ls hl => ?_)
                            refine lv_goto (tgt := 132) hx hb d_MD_planned_189 (by decide) ?_
                            exact ih132 x2 x3 x4 1 (x6 + 1) σ h _ _ hW _ (lv_sub hl [2, 3, 4, 5, 1, 0] rfl)
                          · rw [if_neg c396] at h
                            refine lv_aload_n hx hb d_MD_planned_164 rfl (lv_at hl 0 rfl) ?_
                            refine lv_iload_n hx hb d_MD_planned_165 rfl (lv_at hl 1 rfl) ?_
                            refine lv_aload_n hx hb d_MD_planned_166 rfl (lv_at hl 0 rfl) ?_
                            refine gf_MD_65 C hW.1 d_MD_planned_167 ?_
                            refine lv_iload hx hb d_MD_planned_170 (lv_at hl 5 rfl) ?_
                            obtain ⟨hin, h⟩ := gd_some h
                            refine alR_19 C hW.1 hin d_MD_planned_172 ?_
                            obtain ⟨r397, g_r397, h⟩ := ob_some h
                            refine cl_MD_139 (rest := []) C (hml.trans hl.1.symm) hW.1 g_r397 ⟨Nat.le_of_ble_eq_true rfl, Nat.le_of_ble_eq_true rfl⟩ (Nat.le_of_ble_eq_true rfl) d_MD_planned_173 ⟨Nat.zero_le _, Nat.zero_le _⟩ ?_
                            refine lv_if_eq (tgt := 183) hx hb d_MD_planned_176 (by decide) (fun c398 => ?_) (fun c398 => ?_)
                            · rw [if_pos c398] at h
                              refine lv_iconst (v := 0) hx hb d_MD_planned_183 (by decide) ?_
                              refine lv_istore (lv' := [(5, .int 0), (0, .ref (ad 0)), (2, .int x2), (3, .int x3), (4, .int x4), (6, .int x6)]) hx hb d_MD_planned_184 hl (by decide) rfl (fun ls hl => ?_)
                              refine lv_iinc (v := x6 + 1) (lv' := [(6, .int (x6 + 1)), (5, .int 0), (0, .ref (ad 0)), (2, .int x2), (3, .int x3), (4, .int x4)]) hx hb d_MD_planned_186 hl (k := 5) rfl rfl (by decide) rfl (fun ls hl => ?_)
                              refine lv_goto (tgt := 132) hx hb d_MD_planned_189 (by decide) ?_
                              exact ih132 x2 x3 x4 0 (x6 + 1) σ h _ _ hW _ (lv_sub hl [2, 3, 4, 5, 1, 0] rfl)
                            · rw [if_neg c398] at h
                              refine lv_iconst (v := 1) hx hb d_MD_planned_179 (by decide) ?_
                              refine lv_goto (tgt := 184) hx hb d_MD_planned_180 (by decide) ?_
                              refine lv_istore (lv' := [(5, .int 1), (0, .ref (ad 0)), (2, .int x2), (3, .int x3), (4, .int x4), (6, .int x6)]) hx hb d_MD_planned_184 hl (by decide) rfl (fun ls hl => ?_)
                              refine lv_iinc (v := x6 + 1) (lv' := [(6, .int (x6 + 1)), (5, .int 1), (0, .ref (ad 0)), (2, .int x2), (3, .int x3), (4, .int x4)]) hx hb d_MD_planned_186 hl (k := 5) rfl rfl (by decide) rfl (fun ls hl => ?_)
                              refine lv_goto (tgt := 132) hx hb d_MD_planned_189 (by decide) ?_
                              exact ih132 x2 x3 x4 1 (x6 + 1) σ h _ _ hW _ (lv_sub hl [2, 3, 4, 5, 1, 0] rfl)
                  exact k132 _ x2 x3 x4 r392 0 σ391 h _ _ hW _ (lv_sub hl [2, 4, 5, 6, 1, 0] rfl)
                · rw [if_pos c386] at h
                  refine lv_iconst (v := 0) hx hb d_MD_planned_68 (by decide) ?_
                  exact W.iret hx hb hr (fun t ht _ => qr_i h ht hW) hW.2.2.2 d_MD_planned_69
              exact k62 x1 x2 x3 x4 0 0 s0 σ h _ _ hW _ (lv_sub hl [0, 1, 2, 3, 4] rfl)
            · rw [if_neg c365] at h
              refine lv_iconst (v := 1) hx hb d_MD_planned_57 (by decide) ?_
              refine lv_goto (tgt := 62) hx hb d_MD_planned_58 (by decide) ?_
              have k62 : ∀ (x1 : Int32) (x2 : Int32) (x3 : Int32) (x4 : Int32) (s0 : Int32) (s1 : Int32) (s2 : Int32) (σ : Sg) (h : C_MD_planned_62 x1 x2 x3 x4 s0 s1 s2 σ = some out) (H : Heap) (locs : List Loc) (hW : WR G ad cI cZ s σ H locs) (ls : Array Slot) (hl : lv_has ls 7 [(0, .ref (ad 0)), (1, .int x1), (2, .int x2), (3, .int x3), (4, .int x4)]), W p l e (headSpec wl_MD_planned ({ frames := 4, cells := 0, slots := 0, locals := 97 } : Room)).room s m (([.ref (ad 0), .int a1, .int a2, .int a3, .int a4] : List Value).toArray) below meth c H locs 0 0 (MQ below (QRi G ad cI cZ out) (([.ref (ad 0), .int a1, .int a2, .int a3, .int a4] : List Value).toArray) s 0 0 (AR ad)) (F0 m 62 ls [.int s0, .int s1, .int s2, .ref (ad 0)]) := by
                intro x1 x2 x3 x4 s0 s1 s2 σ h H locs hW ls hl
                unfold C_MD_planned_62 at h
                obtain ⟨r366, g_r366, h⟩ := ob_some h
                refine cl_MD_102 (rest := []) C hD (hml.trans hl.1.symm) hW g_r366 ⟨Nat.le_of_ble_eq_true rfl, Nat.le_of_ble_eq_true rfl⟩ (Nat.le_of_ble_eq_true rfl) d_MD_planned_62 ⟨Nat.zero_le _, Nat.zero_le _⟩ (fun H locs hW => ?_)
                refine lv_if_ne (tgt := 70) hx hb d_MD_planned_65 (by decide) (fun c367 => ?_) (fun c367 => ?_)
                · rw [if_neg c367] at h
                  refine lv_aload_n hx hb d_MD_planned_70 rfl (lv_at hl 0 rfl) ?_
                  refine gf_MD_59 C hW.1 d_MD_planned_71 ?_
                  refine lv_aload_n hx hb d_MD_planned_74 rfl (lv_at hl 0 rfl) ?_
                  refine gf_MD_123 C hW.1 d_MD_planned_75 ?_
                  refine lv_iload_n hx hb d_MD_planned_78 rfl (lv_at hl 1 rfl) ?_
                  obtain ⟨hin, h⟩ := gd_some h
                  refine asR_17 C hD hW hin d_MD_planned_79 (fun H locs hW => ?_)
                  obtain ⟨σ368, e_σ368, h⟩ := lt1_some h
                  rw [← e_σ368] at hW
                  refine lv_aload_n hx hb d_MD_planned_80 rfl (lv_at hl 0 rfl) ?_
                  refine gf_MD_62 C hW.1 d_MD_planned_81 ?_
                  refine lv_aload_n hx hb d_MD_planned_84 rfl (lv_at hl 0 rfl) ?_
                  refine gf_MD_123 C hW.1 d_MD_planned_85 ?_
                  refine lv_iload_n hx hb d_MD_planned_88 rfl (lv_at hl 2 rfl) ?_
                  obtain ⟨hin, h⟩ := gd_some h
                  refine asR_18 C hD hW hin d_MD_planned_89 (fun H locs hW => ?_)
                  obtain ⟨σ369, e_σ369, h⟩ := lt1_some h
                  rw [← e_σ369] at hW
                  refine lv_aload_n hx hb d_MD_planned_90 rfl (lv_at hl 0 rfl) ?_
                  refine gf_MD_65 C hW.1 d_MD_planned_91 ?_
                  refine lv_aload_n hx hb d_MD_planned_94 rfl (lv_at hl 0 rfl) ?_
                  refine gf_MD_123 C hW.1 d_MD_planned_95 ?_
                  refine lv_iload_n hx hb d_MD_planned_98 rfl (lv_at hl 3 rfl) ?_
                  obtain ⟨hin, h⟩ := gd_some h
                  refine asR_19 C hD hW hin d_MD_planned_99 (fun H locs hW => ?_)
                  obtain ⟨σ370, e_σ370, h⟩ := lt1_some h
                  rw [← e_σ370] at hW
                  refine lv_aload_n hx hb d_MD_planned_100 rfl (lv_at hl 0 rfl) ?_
                  refine gf_MD_68 C hW.1 d_MD_planned_101 ?_
                  refine lv_aload_n hx hb d_MD_planned_104 rfl (lv_at hl 0 rfl) ?_
                  refine gf_MD_123 C hW.1 d_MD_planned_105 ?_
                  refine lv_iload hx hb d_MD_planned_108 (lv_at hl 4 rfl) ?_
                  obtain ⟨hin, h⟩ := gd_some h
                  refine asR_20 C hD hW hin d_MD_planned_110 (fun H locs hW => ?_)
                  obtain ⟨σ371, e_σ371, h⟩ := lt1_some h
                  rw [← e_σ371] at hW
                  refine lv_aload_n hx hb d_MD_planned_111 rfl (lv_at hl 0 rfl) ?_
                  refine lv_dup hx hb d_MD_planned_112 rfl ?_
                  refine gf_MD_123 C hW.1 d_MD_planned_113 ?_
                  refine lv_iconst (v := 1) hx hb d_MD_planned_116 (by decide) ?_
                  refine lv_iadd hx hb d_MD_planned_117 ?_
                  refine pf_MD_123 C hD hW d_MD_planned_118 (fun H locs hW => ?_)
                  obtain ⟨σ372, e_σ372, h⟩ := lt1_some h
                  rw [← e_σ372] at hW
                  refine lv_aload_n hx hb d_MD_planned_121 rfl (lv_at hl 0 rfl) ?_
                  refine lv_iload_n hx hb d_MD_planned_122 rfl (lv_at hl 2 rfl) ?_
                  refine lv_iload_n hx hb d_MD_planned_123 rfl (lv_at hl 3 rfl) ?_
                  obtain ⟨r373, g_r373, h⟩ := ob_some h
                  refine cl_MD_139 (rest := []) C (hml.trans hl.1.symm) hW.1 g_r373 ⟨Nat.le_of_ble_eq_true rfl, Nat.le_of_ble_eq_true rfl⟩ (Nat.le_of_ble_eq_true rfl) d_MD_planned_124 ⟨Nat.zero_le _, Nat.zero_le _⟩ ?_
                  refine lv_istore (lv' := [(5, .int r373), (0, .ref (ad 0)), (1, .int x1), (2, .int x2), (3, .int x3), (4, .int x4)]) hx hb d_MD_planned_127 hl (by decide) rfl (fun ls hl => ?_)
                  refine lv_iconst (v := 0) hx hb d_MD_planned_129 (by decide) ?_
                  refine lv_istore (lv' := [(6, .int 0), (5, .int r373), (0, .ref (ad 0)), (1, .int x1), (2, .int x2), (3, .int x3), (4, .int x4)]) hx hb d_MD_planned_130 hl (by decide) rfl (fun ls hl => ?_)
                  have k132 : ∀ (n132 : Nat) (x2 : Int32) (x3 : Int32) (x4 : Int32) (x5 : Int32) (x6 : Int32) (σ : Sg) (h : L_MD_planned_132 n132 x2 x3 x4 x5 x6 σ = some out) (H : Heap) (locs : List Loc) (hW : WR G ad cI cZ s σ H locs) (ls : Array Slot) (hl : lv_has ls 7 [(0, .ref (ad 0)), (2, .int x2), (3, .int x3), (4, .int x4), (5, .int x5), (6, .int x6)]), W p l e (headSpec wl_MD_planned ({ frames := 4, cells := 0, slots := 0, locals := 97 } : Room)).room s m (([.ref (ad 0), .int a1, .int a2, .int a3, .int a4] : List Value).toArray) below meth c H locs 0 0 (MQ below (QRi G ad cI cZ out) (([.ref (ad 0), .int a1, .int a2, .int a3, .int a4] : List Value).toArray) s 0 0 (AR ad)) (F0 m 132 ls []) := by
                    intro n132
                    induction n132 with
                    | zero =>
                      intro x2 x3 x4 x5 x6 σ h
                      exact absurd h (by intro z; cases z)
                    | succ n132 ih132 =>
                      intro x2 x3 x4 x5 x6 σ h H locs hW ls hl
                      replace h : B_MD_planned_132 (L_MD_planned_132 n132) x2 x3 x4 x5 x6 σ = some out := h
                      unfold B_MD_planned_132 at h
                      refine lv_iload hx hb d_MD_planned_132 (lv_at hl 5 rfl) ?_
                      refine lv_aload_n hx hb d_MD_planned_134 rfl (lv_at hl 0 rfl) ?_
                      refine gf_MD_123 C hW.1 d_MD_planned_135 ?_
                      refine lv_iconst (v := 1) hx hb d_MD_planned_138 (by decide) ?_
                      refine lv_isub hx hb d_MD_planned_139 ?_
                      refine lv_icmp_ge (tgt := 192) hx hb d_MD_planned_140 (by decide) (fun c374 => ?_) (fun c374 => ?_)
                      · rw [if_pos c374] at h
                        refine lv_aload_n hx hb d_MD_planned_192 rfl (lv_at hl 0 rfl) ?_
                        refine lv_iload hx hb d_MD_planned_193 (lv_at hl 4 rfl) ?_
                        refine lv_if_eq (tgt := 205) hx hb d_MD_planned_195 (by decide) (fun c380 => ?_) (fun c380 => ?_)
                        · rw [if_pos c380] at h
                          refine lv_aload_n hx hb d_MD_planned_205 rfl (lv_at hl 0 rfl) ?_
                          refine gf_MD_123 C hW.1 d_MD_planned_206 ?_
                          refine lv_iconst (v := 1) hx hb d_MD_planned_209 (by decide) ?_
                          refine lv_isub hx hb d_MD_planned_210 ?_
                          refine pf_MD_123 C hD hW d_MD_planned_211 (fun H locs hW => ?_)
                          obtain ⟨σ383, e_σ383, h⟩ := lt1_some h
                          rw [← e_σ383] at hW
                          refine lv_iload hx hb d_MD_planned_214 (lv_at hl 4 rfl) ?_
                          refine lv_if_eq (tgt := 223) hx hb d_MD_planned_216 (by decide) (fun c384 => ?_) (fun c384 => ?_)
                          · rw [if_pos c384] at h
                            refine lv_iconst (v := 1) hx hb d_MD_planned_223 (by decide) ?_
                            exact W.iret hx hb hr (fun t ht _ => qr_i h ht hW) hW.2.2.2 d_MD_planned_224
                          · rw [if_neg c384] at h
                            refine lv_iconst (v := 0) hx hb d_MD_planned_219 (by decide) ?_
                            refine lv_goto (tgt := 224) hx hb d_MD_planned_220 (by decide) ?_
                            exact W.iret hx hb hr (fun t ht _ => qr_i h ht hW) hW.2.2.2 d_MD_planned_224
                        · rw [if_neg c380] at h
                          refine lv_aload_n hx hb d_MD_planned_198 rfl (lv_at hl 0 rfl) ?_
                          refine gf_MD_123 C hW.1 d_MD_planned_199 ?_
                          refine lv_goto (tgt := 211) hx hb d_MD_planned_202 (by decide) ?_
                          refine pf_MD_123 C hD hW d_MD_planned_211 (fun H locs hW => ?_)
                          obtain ⟨σ381, e_σ381, h⟩ := lt1_some h
                          rw [← e_σ381] at hW
                          refine lv_iload hx hb d_MD_planned_214 (lv_at hl 4 rfl) ?_
                          refine lv_if_eq (tgt := 223) hx hb d_MD_planned_216 (by decide) (fun c382 => ?_) (fun c382 => ?_)
                          · rw [if_pos c382] at h
                            refine lv_iconst (v := 1) hx hb d_MD_planned_223 (by decide) ?_
                            exact W.iret hx hb hr (fun t ht _ => qr_i h ht hW) hW.2.2.2 d_MD_planned_224
                          · rw [if_neg c382] at h
                            refine lv_iconst (v := 0) hx hb d_MD_planned_219 (by decide) ?_
                            refine lv_goto (tgt := 224) hx hb d_MD_planned_220 (by decide) ?_
                            exact W.iret hx hb hr (fun t ht _ => qr_i h ht hW) hW.2.2.2 d_MD_planned_224
                      · rw [if_neg c374] at h
                        refine lv_iload hx hb d_MD_planned_143 (lv_at hl 4 rfl) ?_
                        refine lv_if_eq (tgt := 183) hx hb d_MD_planned_145 (by decide) (fun c375 => ?_) (fun c375 => ?_)
                        · rw [if_pos c375] at h
                          refine lv_iconst (v := 0) hx hb d_MD_planned_183 (by decide) ?_
                          refine lv_istore (lv' := [(5, .int 0), (0, .ref (ad 0)), (2, .int x2), (3, .int x3), (4, .int x4), (6, .int x6)]) hx hb d_MD_planned_184 hl (by decide) rfl (fun ls hl => ?_)
                          refine lv_iinc (v := x6 + 1) (lv' := [(6, .int (x6 + 1)), (5, .int 0), (0, .ref (ad 0)), (2, .int x2), (3, .int x3), (4, .int x4)]) hx hb d_MD_planned_186 hl (k := 5) rfl rfl (by decide) rfl (fun ls hl => ?_)
                          refine lv_goto (tgt := 132) hx hb d_MD_planned_189 (by decide) ?_
                          exact ih132 x2 x3 x4 0 (x6 + 1) σ h _ _ hW _ (lv_sub hl [2, 3, 4, 5, 1, 0] rfl)
                        · rw [if_neg c375] at h
                          refine lv_aload_n hx hb d_MD_planned_148 rfl (lv_at hl 0 rfl) ?_
                          refine gf_MD_65 C hW.1 d_MD_planned_149 ?_
                          refine lv_iload hx hb d_MD_planned_152 (lv_at hl 5 rfl) ?_
                          obtain ⟨hin, h⟩ := gd_some h
                          refine alR_19 C hW.1 hin d_MD_planned_154 ?_
                          refine lv_iload_n hx hb d_MD_planned_155 rfl (lv_at hl 2 rfl) ?_
                          refine lv_iload hx hb d_MD_planned_156 (lv_at hl 3 rfl) ?_
                          obtain ⟨r376, g_r376, h⟩ := ob_some h
                          refine cl_MD_98 (rest := []) C (hml.trans hl.1.symm) hW.1 g_r376 ⟨Nat.le_of_ble_eq_true rfl, Nat.le_of_ble_eq_true rfl⟩ (Nat.le_of_ble_eq_true rfl) d_MD_planned_158 ⟨Nat.zero_le _, Nat.zero_le _⟩ ?_
                          refine lv_if_eq (tgt := 179) hx hb d_MD_planned_161 (by decide) (fun c377 => ?_) (fun c377 => ?_)
                          · rw [if_pos c377] at h
                            refine lv_iconst (v := 1) hx hb d_MD_planned_179 (by decide) ?_
                            refine lv_goto (tgt := 184) hx hb d_MD_planned_180 (by decide) ?_
                            refine lv_istore (lv' := [(5, .int 1), (0, .ref (ad 0)), (2, .int x2), (3, .int x3), (4, .int x4), (6, .int x6)]) hx hb d_MD_planned_184 hl (by decide) rfl (fun ls hl => ?_)
                            refine lv_iinc (v := x6 + 1) (lv' := [(6, .int (x6 + 1)), (5, .int 1), (0, .ref (ad 0)), (2, .int x2), (3, .int x3), (4, .int x4)]) hx hb d_MD_planned_186 hl (k := 5) rfl rfl (by decide) rfl (fun ls hl => ?_)
                            refine lv_goto (tgt := 132) hx hb d_MD_planned_189 (by decide) ?_
                            exact ih132 x2 x3 x4 1 (x6 + 1) σ h _ _ hW _ (lv_sub hl [2, 3, 4, 5, 1, 0] rfl)
                          · rw [if_neg c377] at h
                            refine lv_aload_n hx hb d_MD_planned_164 rfl (lv_at hl 0 rfl) ?_
                            refine lv_iload_n hx hb d_MD_planned_165 rfl (lv_at hl 1 rfl) ?_
                            refine lv_aload_n hx hb d_MD_planned_166 rfl (lv_at hl 0 rfl) ?_
                            refine gf_MD_65 C hW.1 d_MD_planned_167 ?_
                            refine lv_iload hx hb d_MD_planned_170 (lv_at hl 5 rfl) ?_
                            obtain ⟨hin, h⟩ := gd_some h
                            refine alR_19 C hW.1 hin d_MD_planned_172 ?_
                            obtain ⟨r378, g_r378, h⟩ := ob_some h
                            refine cl_MD_139 (rest := []) C (hml.trans hl.1.symm) hW.1 g_r378 ⟨Nat.le_of_ble_eq_true rfl, Nat.le_of_ble_eq_true rfl⟩ (Nat.le_of_ble_eq_true rfl) d_MD_planned_173 ⟨Nat.zero_le _, Nat.zero_le _⟩ ?_
                            refine lv_if_eq (tgt := 183) hx hb d_MD_planned_176 (by decide) (fun c379 => ?_) (fun c379 => ?_)
                            · rw [if_pos c379] at h
                              refine lv_iconst (v := 0) hx hb d_MD_planned_183 (by decide) ?_
                              refine lv_istore (lv' := [(5, .int 0), (0, .ref (ad 0)), (2, .int x2), (3, .int x3), (4, .int x4), (6, .int x6)]) hx hb d_MD_planned_184 hl (by decide) rfl (fun ls hl => ?_)
                              refine lv_iinc (v := x6 + 1) (lv' := [(6, .int (x6 + 1)), (5, .int 0), (0, .ref (ad 0)), (2, .int x2), (3, .int x3), (4, .int x4)]) hx hb d_MD_planned_186 hl (k := 5) rfl rfl (by decide) rfl (fun ls hl => ?_)
                              refine lv_goto (tgt := 132) hx hb d_MD_planned_189 (by decide) ?_
                              exact ih132 x2 x3 x4 0 (x6 + 1) σ h _ _ hW _ (lv_sub hl [2, 3, 4, 5, 1, 0] rfl)
                            · rw [if_neg c379] at h
                              refine lv_iconst (v := 1) hx hb d_MD_planned_179 (by decide) ?_
                              refine lv_goto (tgt := 184) hx hb d_MD_planned_180 (by decide) ?_
                              refine lv_istore (lv' := [(5, .int 1), (0, .ref (ad 0)), (2, .int x2), (3, .int x3), (4, .int x4), (6, .int x6)]) hx hb d_MD_planned_184 hl (by decide) rfl (fun ls hl => ?_)
                              refine lv_iinc (v := x6 + 1) (lv' := [(6, .int (x6 + 1)), (5, .int 1), (0, .ref (ad 0)), (2, .int x2), (3, .int x3), (4, .int x4)]) hx hb d_MD_planned_186 hl (k := 5) rfl rfl (by decide) rfl (fun ls hl => ?_)
                              refine lv_goto (tgt := 132) hx hb d_MD_planned_189 (by decide) ?_
                              exact ih132 x2 x3 x4 1 (x6 + 1) σ h _ _ hW _ (lv_sub hl [2, 3, 4, 5, 1, 0] rfl)
                  exact k132 _ x2 x3 x4 r373 0 σ372 h _ _ hW _ (lv_sub hl [2, 4, 5, 6, 1, 0] rfl)
                · rw [if_pos c367] at h
                  refine lv_iconst (v := 0) hx hb d_MD_planned_68 (by decide) ?_
                  exact W.iret hx hb hr (fun t ht _ => qr_i h ht hW) hW.2.2.2 d_MD_planned_69
              exact k62 x1 x2 x3 x4 1 0 s0 σ h _ _ hW _ (lv_sub hl [0, 1, 2, 3, 4] rfl)
          · rw [if_neg c325] at h
            refine lv_iconst (v := 1) hx hb d_MD_planned_43 (by decide) ?_
            refine lv_goto (tgt := 48) hx hb d_MD_planned_44 (by decide) ?_
            refine lv_aload_n hx hb d_MD_planned_48 rfl (lv_at hl 0 rfl) ?_
            refine gf_MD_123 C hW.1 d_MD_planned_49 ?_
            refine lv_bipush (v := 30) hx hb d_MD_planned_52 (by decide) ?_
            refine lv_icmp_ge (tgt := 61) hx hb d_MD_planned_54 (by decide) (fun c326 => ?_) (fun c326 => ?_)
            · rw [if_pos c326] at h
              refine lv_iconst (v := 0) hx hb d_MD_planned_61 (by decide) ?_
              have k62 : ∀ (x1 : Int32) (x2 : Int32) (x3 : Int32) (x4 : Int32) (s0 : Int32) (s1 : Int32) (s2 : Int32) (σ : Sg) (h : C_MD_planned_62 x1 x2 x3 x4 s0 s1 s2 σ = some out) (H : Heap) (locs : List Loc) (hW : WR G ad cI cZ s σ H locs) (ls : Array Slot) (hl : lv_has ls 7 [(0, .ref (ad 0)), (1, .int x1), (2, .int x2), (3, .int x3), (4, .int x4)]), W p l e (headSpec wl_MD_planned ({ frames := 4, cells := 0, slots := 0, locals := 97 } : Room)).room s m (([.ref (ad 0), .int a1, .int a2, .int a3, .int a4] : List Value).toArray) below meth c H locs 0 0 (MQ below (QRi G ad cI cZ out) (([.ref (ad 0), .int a1, .int a2, .int a3, .int a4] : List Value).toArray) s 0 0 (AR ad)) (F0 m 62 ls [.int s0, .int s1, .int s2, .ref (ad 0)]) := by
                intro x1 x2 x3 x4 s0 s1 s2 σ h H locs hW ls hl
                unfold C_MD_planned_62 at h
                obtain ⟨r346, g_r346, h⟩ := ob_some h
                refine cl_MD_102 (rest := []) C hD (hml.trans hl.1.symm) hW g_r346 ⟨Nat.le_of_ble_eq_true rfl, Nat.le_of_ble_eq_true rfl⟩ (Nat.le_of_ble_eq_true rfl) d_MD_planned_62 ⟨Nat.zero_le _, Nat.zero_le _⟩ (fun H locs hW => ?_)
                refine lv_if_ne (tgt := 70) hx hb d_MD_planned_65 (by decide) (fun c347 => ?_) (fun c347 => ?_)
                · rw [if_neg c347] at h
                  refine lv_aload_n hx hb d_MD_planned_70 rfl (lv_at hl 0 rfl) ?_
                  refine gf_MD_59 C hW.1 d_MD_planned_71 ?_
                  refine lv_aload_n hx hb d_MD_planned_74 rfl (lv_at hl 0 rfl) ?_
                  refine gf_MD_123 C hW.1 d_MD_planned_75 ?_
                  refine lv_iload_n hx hb d_MD_planned_78 rfl (lv_at hl 1 rfl) ?_
                  obtain ⟨hin, h⟩ := gd_some h
                  refine asR_17 C hD hW hin d_MD_planned_79 (fun H locs hW => ?_)
                  obtain ⟨σ348, e_σ348, h⟩ := lt1_some h
                  rw [← e_σ348] at hW
                  refine lv_aload_n hx hb d_MD_planned_80 rfl (lv_at hl 0 rfl) ?_
                  refine gf_MD_62 C hW.1 d_MD_planned_81 ?_
                  refine lv_aload_n hx hb d_MD_planned_84 rfl (lv_at hl 0 rfl) ?_
                  refine gf_MD_123 C hW.1 d_MD_planned_85 ?_
                  refine lv_iload_n hx hb d_MD_planned_88 rfl (lv_at hl 2 rfl) ?_
                  obtain ⟨hin, h⟩ := gd_some h
                  refine asR_18 C hD hW hin d_MD_planned_89 (fun H locs hW => ?_)
                  obtain ⟨σ349, e_σ349, h⟩ := lt1_some h
                  rw [← e_σ349] at hW
                  refine lv_aload_n hx hb d_MD_planned_90 rfl (lv_at hl 0 rfl) ?_
                  refine gf_MD_65 C hW.1 d_MD_planned_91 ?_
                  refine lv_aload_n hx hb d_MD_planned_94 rfl (lv_at hl 0 rfl) ?_
                  refine gf_MD_123 C hW.1 d_MD_planned_95 ?_
                  refine lv_iload_n hx hb d_MD_planned_98 rfl (lv_at hl 3 rfl) ?_
                  obtain ⟨hin, h⟩ := gd_some h
                  refine asR_19 C hD hW hin d_MD_planned_99 (fun H locs hW => ?_)
                  obtain ⟨σ350, e_σ350, h⟩ := lt1_some h
                  rw [← e_σ350] at hW
                  refine lv_aload_n hx hb d_MD_planned_100 rfl (lv_at hl 0 rfl) ?_
                  refine gf_MD_68 C hW.1 d_MD_planned_101 ?_
                  refine lv_aload_n hx hb d_MD_planned_104 rfl (lv_at hl 0 rfl) ?_
                  refine gf_MD_123 C hW.1 d_MD_planned_105 ?_
                  refine lv_iload hx hb d_MD_planned_108 (lv_at hl 4 rfl) ?_
                  obtain ⟨hin, h⟩ := gd_some h
                  refine asR_20 C hD hW hin d_MD_planned_110 (fun H locs hW => ?_)
                  obtain ⟨σ351, e_σ351, h⟩ := lt1_some h
                  rw [← e_σ351] at hW
                  refine lv_aload_n hx hb d_MD_planned_111 rfl (lv_at hl 0 rfl) ?_
                  refine lv_dup hx hb d_MD_planned_112 rfl ?_
                  refine gf_MD_123 C hW.1 d_MD_planned_113 ?_
                  refine lv_iconst (v := 1) hx hb d_MD_planned_116 (by decide) ?_
                  refine lv_iadd hx hb d_MD_planned_117 ?_
                  refine pf_MD_123 C hD hW d_MD_planned_118 (fun H locs hW => ?_)
                  obtain ⟨σ352, e_σ352, h⟩ := lt1_some h
                  rw [← e_σ352] at hW
                  refine lv_aload_n hx hb d_MD_planned_121 rfl (lv_at hl 0 rfl) ?_
                  refine lv_iload_n hx hb d_MD_planned_122 rfl (lv_at hl 2 rfl) ?_
                  refine lv_iload_n hx hb d_MD_planned_123 rfl (lv_at hl 3 rfl) ?_
                  obtain ⟨r353, g_r353, h⟩ := ob_some h
                  refine cl_MD_139 (rest := []) C (hml.trans hl.1.symm) hW.1 g_r353 ⟨Nat.le_of_ble_eq_true rfl, Nat.le_of_ble_eq_true rfl⟩ (Nat.le_of_ble_eq_true rfl) d_MD_planned_124 ⟨Nat.zero_le _, Nat.zero_le _⟩ ?_
                  refine lv_istore (lv' := [(5, .int r353), (0, .ref (ad 0)), (1, .int x1), (2, .int x2), (3, .int x3), (4, .int x4)]) hx hb d_MD_planned_127 hl (by decide) rfl (fun ls hl => ?_)
                  refine lv_iconst (v := 0) hx hb d_MD_planned_129 (by decide) ?_
                  refine lv_istore (lv' := [(6, .int 0), (5, .int r353), (0, .ref (ad 0)), (1, .int x1), (2, .int x2), (3, .int x3), (4, .int x4)]) hx hb d_MD_planned_130 hl (by decide) rfl (fun ls hl => ?_)
                  have k132 : ∀ (n132 : Nat) (x2 : Int32) (x3 : Int32) (x4 : Int32) (x5 : Int32) (x6 : Int32) (σ : Sg) (h : L_MD_planned_132 n132 x2 x3 x4 x5 x6 σ = some out) (H : Heap) (locs : List Loc) (hW : WR G ad cI cZ s σ H locs) (ls : Array Slot) (hl : lv_has ls 7 [(0, .ref (ad 0)), (2, .int x2), (3, .int x3), (4, .int x4), (5, .int x5), (6, .int x6)]), W p l e (headSpec wl_MD_planned ({ frames := 4, cells := 0, slots := 0, locals := 97 } : Room)).room s m (([.ref (ad 0), .int a1, .int a2, .int a3, .int a4] : List Value).toArray) below meth c H locs 0 0 (MQ below (QRi G ad cI cZ out) (([.ref (ad 0), .int a1, .int a2, .int a3, .int a4] : List Value).toArray) s 0 0 (AR ad)) (F0 m 132 ls []) := by
                    intro n132
                    induction n132 with
                    | zero =>
                      intro x2 x3 x4 x5 x6 σ h
                      exact absurd h (by intro z; cases z)
                    | succ n132 ih132 =>
                      intro x2 x3 x4 x5 x6 σ h H locs hW ls hl
                      replace h : B_MD_planned_132 (L_MD_planned_132 n132) x2 x3 x4 x5 x6 σ = some out := h
                      unfold B_MD_planned_132 at h
                      refine lv_iload hx hb d_MD_planned_132 (lv_at hl 5 rfl) ?_
                      refine lv_aload_n hx hb d_MD_planned_134 rfl (lv_at hl 0 rfl) ?_
                      refine gf_MD_123 C hW.1 d_MD_planned_135 ?_
                      refine lv_iconst (v := 1) hx hb d_MD_planned_138 (by decide) ?_
                      refine lv_isub hx hb d_MD_planned_139 ?_
                      refine lv_icmp_ge (tgt := 192) hx hb d_MD_planned_140 (by decide) (fun c354 => ?_) (fun c354 => ?_)
                      · rw [if_pos c354] at h
                        refine lv_aload_n hx hb d_MD_planned_192 rfl (lv_at hl 0 rfl) ?_
                        refine lv_iload hx hb d_MD_planned_193 (lv_at hl 4 rfl) ?_
                        refine lv_if_eq (tgt := 205) hx hb d_MD_planned_195 (by decide) (fun c360 => ?_) (fun c360 => ?_)
                        · rw [if_pos c360] at h
                          refine lv_aload_n hx hb d_MD_planned_205 rfl (lv_at hl 0 rfl) ?_
                          refine gf_MD_123 C hW.1 d_MD_planned_206 ?_
                          refine lv_iconst (v := 1) hx hb d_MD_planned_209 (by decide) ?_
                          refine lv_isub hx hb d_MD_planned_210 ?_
                          refine pf_MD_123 C hD hW d_MD_planned_211 (fun H locs hW => ?_)
                          obtain ⟨σ363, e_σ363, h⟩ := lt1_some h
                          rw [← e_σ363] at hW
                          refine lv_iload hx hb d_MD_planned_214 (lv_at hl 4 rfl) ?_
                          refine lv_if_eq (tgt := 223) hx hb d_MD_planned_216 (by decide) (fun c364 => ?_) (fun c364 => ?_)
                          · rw [if_pos c364] at h
                            refine lv_iconst (v := 1) hx hb d_MD_planned_223 (by decide) ?_
                            exact W.iret hx hb hr (fun t ht _ => qr_i h ht hW) hW.2.2.2 d_MD_planned_224
                          · rw [if_neg c364] at h
                            refine lv_iconst (v := 0) hx hb d_MD_planned_219 (by decide) ?_
                            refine lv_goto (tgt := 224) hx hb d_MD_planned_220 (by decide) ?_
                            exact W.iret hx hb hr (fun t ht _ => qr_i h ht hW) hW.2.2.2 d_MD_planned_224
                        · rw [if_neg c360] at h
                          refine lv_aload_n hx hb d_MD_planned_198 rfl (lv_at hl 0 rfl) ?_
                          refine gf_MD_123 C hW.1 d_MD_planned_199 ?_
                          refine lv_goto (tgt := 211) hx hb d_MD_planned_202 (by decide) ?_
                          refine pf_MD_123 C hD hW d_MD_planned_211 (fun H locs hW => ?_)
                          obtain ⟨σ361, e_σ361, h⟩ := lt1_some h
                          rw [← e_σ361] at hW
                          refine lv_iload hx hb d_MD_planned_214 (lv_at hl 4 rfl) ?_
                          refine lv_if_eq (tgt := 223) hx hb d_MD_planned_216 (by decide) (fun c362 => ?_) (fun c362 => ?_)
                          · rw [if_pos c362] at h
                            refine lv_iconst (v := 1) hx hb d_MD_planned_223 (by decide) ?_
                            exact W.iret hx hb hr (fun t ht _ => qr_i h ht hW) hW.2.2.2 d_MD_planned_224
                          · rw [if_neg c362] at h
                            refine lv_iconst (v := 0) hx hb d_MD_planned_219 (by decide) ?_
                            refine lv_goto (tgt := 224) hx hb d_MD_planned_220 (by decide) ?_
                            exact W.iret hx hb hr (fun t ht _ => qr_i h ht hW) hW.2.2.2 d_MD_planned_224
                      · rw [if_neg c354] at h
                        refine lv_iload hx hb d_MD_planned_143 (lv_at hl 4 rfl) ?_
                        refine lv_if_eq (tgt := 183) hx hb d_MD_planned_145 (by decide) (fun c355 => ?_) (fun c355 => ?_)
                        · rw [if_pos c355] at h
                          refine lv_iconst (v := 0) hx hb d_MD_planned_183 (by decide) ?_
                          refine lv_istore (lv' := [(5, .int 0), (0, .ref (ad 0)), (2, .int x2), (3, .int x3), (4, .int x4), (6, .int x6)]) hx hb d_MD_planned_184 hl (by decide) rfl (fun ls hl => ?_)
                          refine lv_iinc (v := x6 + 1) (lv' := [(6, .int (x6 + 1)), (5, .int 0), (0, .ref (ad 0)), (2, .int x2), (3, .int x3), (4, .int x4)]) hx hb d_MD_planned_186 hl (k := 5) rfl rfl (by decide) rfl (fun ls hl => ?_)
                          refine lv_goto (tgt := 132) hx hb d_MD_planned_189 (by decide) ?_
                          exact ih132 x2 x3 x4 0 (x6 + 1) σ h _ _ hW _ (lv_sub hl [2, 3, 4, 5, 1, 0] rfl)
                        · rw [if_neg c355] at h
                          refine lv_aload_n hx hb d_MD_planned_148 rfl (lv_at hl 0 rfl) ?_
                          refine gf_MD_65 C hW.1 d_MD_planned_149 ?_
                          refine lv_iload hx hb d_MD_planned_152 (lv_at hl 5 rfl) ?_
                          obtain ⟨hin, h⟩ := gd_some h
                          refine alR_19 C hW.1 hin d_MD_planned_154 ?_
                          refine lv_iload_n hx hb d_MD_planned_155 rfl (lv_at hl 2 rfl) ?_
                          refine lv_iload hx hb d_MD_planned_156 (lv_at hl 3 rfl) ?_
                          obtain ⟨r356, g_r356, h⟩ := ob_some h
                          refine cl_MD_98 (rest := []) C (hml.trans hl.1.symm) hW.1 g_r356 ⟨Nat.le_of_ble_eq_true rfl, Nat.le_of_ble_eq_true rfl⟩ (Nat.le_of_ble_eq_true rfl) d_MD_planned_158 ⟨Nat.zero_le _, Nat.zero_le _⟩ ?_
                          refine lv_if_eq (tgt := 179) hx hb d_MD_planned_161 (by decide) (fun c357 => ?_) (fun c357 => ?_)
                          · rw [if_pos c357] at h
                            refine lv_iconst (v := 1) hx hb d_MD_planned_179 (by decide) ?_
                            refine lv_goto (tgt := 184) hx hb d_MD_planned_180 (by decide) ?_
                            refine lv_istore (lv' := [(5, .int 1), (0, .ref (ad 0)), (2, .int x2), (3, .int x3), (4, .int x4), (6, .int x6)]) hx hb d_MD_planned_184 hl (by decide) rfl (fun ls hl => ?_)
                            refine lv_iinc (v := x6 + 1) (lv' := [(6, .int (x6 + 1)), (5, .int 1), (0, .ref (ad 0)), (2, .int x2), (3, .int x3), (4, .int x4)]) hx hb d_MD_planned_186 hl (k := 5) rfl rfl (by decide) rfl (fun ls hl => ?_)
                            refine lv_goto (tgt := 132) hx hb d_MD_planned_189 (by decide) ?_
                            exact ih132 x2 x3 x4 1 (x6 + 1) σ h _ _ hW _ (lv_sub hl [2, 3, 4, 5, 1, 0] rfl)
                          · rw [if_neg c357] at h
                            refine lv_aload_n hx hb d_MD_planned_164 rfl (lv_at hl 0 rfl) ?_
                            refine lv_iload_n hx hb d_MD_planned_165 rfl (lv_at hl 1 rfl) ?_
                            refine lv_aload_n hx hb d_MD_planned_166 rfl (lv_at hl 0 rfl) ?_
                            refine gf_MD_65 C hW.1 d_MD_planned_167 ?_
                            refine lv_iload hx hb d_MD_planned_170 (lv_at hl 5 rfl) ?_
                            obtain ⟨hin, h⟩ := gd_some h
                            refine alR_19 C hW.1 hin d_MD_planned_172 ?_
                            obtain ⟨r358, g_r358, h⟩ := ob_some h
                            refine cl_MD_139 (rest := []) C (hml.trans hl.1.symm) hW.1 g_r358 ⟨Nat.le_of_ble_eq_true rfl, Nat.le_of_ble_eq_true rfl⟩ (Nat.le_of_ble_eq_true rfl) d_MD_planned_173 ⟨Nat.zero_le _, Nat.zero_le _⟩ ?_
                            refine lv_if_eq (tgt := 183) hx hb d_MD_planned_176 (by decide) (fun c359 => ?_) (fun c359 => ?_)
                            · rw [if_pos c359] at h
                              refine lv_iconst (v := 0) hx hb d_MD_planned_183 (by decide) ?_
                              refine lv_istore (lv' := [(5, .int 0), (0, .ref (ad 0)), (2, .int x2), (3, .int x3), (4, .int x4), (6, .int x6)]) hx hb d_MD_planned_184 hl (by decide) rfl (fun ls hl => ?_)
                              refine lv_iinc (v := x6 + 1) (lv' := [(6, .int (x6 + 1)), (5, .int 0), (0, .ref (ad 0)), (2, .int x2), (3, .int x3), (4, .int x4)]) hx hb d_MD_planned_186 hl (k := 5) rfl rfl (by decide) rfl (fun ls hl => ?_)
                              refine lv_goto (tgt := 132) hx hb d_MD_planned_189 (by decide) ?_
                              exact ih132 x2 x3 x4 0 (x6 + 1) σ h _ _ hW _ (lv_sub hl [2, 3, 4, 5, 1, 0] rfl)
                            · rw [if_neg c359] at h
                              refine lv_iconst (v := 1) hx hb d_MD_planned_179 (by decide) ?_
                              refine lv_goto (tgt := 184) hx hb d_MD_planned_180 (by decide) ?_
                              refine lv_istore (lv' := [(5, .int 1), (0, .ref (ad 0)), (2, .int x2), (3, .int x3), (4, .int x4), (6, .int x6)]) hx hb d_MD_planned_184 hl (by decide) rfl (fun ls hl => ?_)
                              refine lv_iinc (v := x6 + 1) (lv' := [(6, .int (x6 + 1)), (5, .int 1), (0, .ref (ad 0)), (2, .int x2), (3, .int x3), (4, .int x4)]) hx hb d_MD_planned_186 hl (k := 5) rfl rfl (by decide) rfl (fun ls hl => ?_)
                              refine lv_goto (tgt := 132) hx hb d_MD_planned_189 (by decide) ?_
                              exact ih132 x2 x3 x4 1 (x6 + 1) σ h _ _ hW _ (lv_sub hl [2, 3, 4, 5, 1, 0] rfl)
                  exact k132 _ x2 x3 x4 r353 0 σ352 h _ _ hW _ (lv_sub hl [2, 4, 5, 6, 1, 0] rfl)
                · rw [if_pos c347] at h
                  refine lv_iconst (v := 0) hx hb d_MD_planned_68 (by decide) ?_
                  exact W.iret hx hb hr (fun t ht _ => qr_i h ht hW) hW.2.2.2 d_MD_planned_69
              exact k62 x1 x2 x3 x4 0 1 s0 σ h _ _ hW _ (lv_sub hl [0, 1, 2, 3, 4] rfl)
            · rw [if_neg c326] at h
              refine lv_iconst (v := 1) hx hb d_MD_planned_57 (by decide) ?_
              refine lv_goto (tgt := 62) hx hb d_MD_planned_58 (by decide) ?_
              have k62 : ∀ (x1 : Int32) (x2 : Int32) (x3 : Int32) (x4 : Int32) (s0 : Int32) (s1 : Int32) (s2 : Int32) (σ : Sg) (h : C_MD_planned_62 x1 x2 x3 x4 s0 s1 s2 σ = some out) (H : Heap) (locs : List Loc) (hW : WR G ad cI cZ s σ H locs) (ls : Array Slot) (hl : lv_has ls 7 [(0, .ref (ad 0)), (1, .int x1), (2, .int x2), (3, .int x3), (4, .int x4)]), W p l e (headSpec wl_MD_planned ({ frames := 4, cells := 0, slots := 0, locals := 97 } : Room)).room s m (([.ref (ad 0), .int a1, .int a2, .int a3, .int a4] : List Value).toArray) below meth c H locs 0 0 (MQ below (QRi G ad cI cZ out) (([.ref (ad 0), .int a1, .int a2, .int a3, .int a4] : List Value).toArray) s 0 0 (AR ad)) (F0 m 62 ls [.int s0, .int s1, .int s2, .ref (ad 0)]) := by
                intro x1 x2 x3 x4 s0 s1 s2 σ h H locs hW ls hl
                unfold C_MD_planned_62 at h
                obtain ⟨r327, g_r327, h⟩ := ob_some h
                refine cl_MD_102 (rest := []) C hD (hml.trans hl.1.symm) hW g_r327 ⟨Nat.le_of_ble_eq_true rfl, Nat.le_of_ble_eq_true rfl⟩ (Nat.le_of_ble_eq_true rfl) d_MD_planned_62 ⟨Nat.zero_le _, Nat.zero_le _⟩ (fun H locs hW => ?_)
                refine lv_if_ne (tgt := 70) hx hb d_MD_planned_65 (by decide) (fun c328 => ?_) (fun c328 => ?_)
                · rw [if_neg c328] at h
                  refine lv_aload_n hx hb d_MD_planned_70 rfl (lv_at hl 0 rfl) ?_
                  refine gf_MD_59 C hW.1 d_MD_planned_71 ?_
                  refine lv_aload_n hx hb d_MD_planned_74 rfl (lv_at hl 0 rfl) ?_
                  refine gf_MD_123 C hW.1 d_MD_planned_75 ?_
                  refine lv_iload_n hx hb d_MD_planned_78 rfl (lv_at hl 1 rfl) ?_
                  obtain ⟨hin, h⟩ := gd_some h
                  refine asR_17 C hD hW hin d_MD_planned_79 (fun H locs hW => ?_)
                  obtain ⟨σ329, e_σ329, h⟩ := lt1_some h
                  rw [← e_σ329] at hW
                  refine lv_aload_n hx hb d_MD_planned_80 rfl (lv_at hl 0 rfl) ?_
                  refine gf_MD_62 C hW.1 d_MD_planned_81 ?_
                  refine lv_aload_n hx hb d_MD_planned_84 rfl (lv_at hl 0 rfl) ?_
                  refine gf_MD_123 C hW.1 d_MD_planned_85 ?_
                  refine lv_iload_n hx hb d_MD_planned_88 rfl (lv_at hl 2 rfl) ?_
                  obtain ⟨hin, h⟩ := gd_some h
                  refine asR_18 C hD hW hin d_MD_planned_89 (fun H locs hW => ?_)
                  obtain ⟨σ330, e_σ330, h⟩ := lt1_some h
                  rw [← e_σ330] at hW
                  refine lv_aload_n hx hb d_MD_planned_90 rfl (lv_at hl 0 rfl) ?_
                  refine gf_MD_65 C hW.1 d_MD_planned_91 ?_
                  refine lv_aload_n hx hb d_MD_planned_94 rfl (lv_at hl 0 rfl) ?_
                  refine gf_MD_123 C hW.1 d_MD_planned_95 ?_
                  refine lv_iload_n hx hb d_MD_planned_98 rfl (lv_at hl 3 rfl) ?_
                  obtain ⟨hin, h⟩ := gd_some h
                  refine asR_19 C hD hW hin d_MD_planned_99 (fun H locs hW => ?_)
                  obtain ⟨σ331, e_σ331, h⟩ := lt1_some h
                  rw [← e_σ331] at hW
                  refine lv_aload_n hx hb d_MD_planned_100 rfl (lv_at hl 0 rfl) ?_
                  refine gf_MD_68 C hW.1 d_MD_planned_101 ?_
                  refine lv_aload_n hx hb d_MD_planned_104 rfl (lv_at hl 0 rfl) ?_
                  refine gf_MD_123 C hW.1 d_MD_planned_105 ?_
                  refine lv_iload hx hb d_MD_planned_108 (lv_at hl 4 rfl) ?_
                  obtain ⟨hin, h⟩ := gd_some h
                  refine asR_20 C hD hW hin d_MD_planned_110 (fun H locs hW => ?_)
                  obtain ⟨σ332, e_σ332, h⟩ := lt1_some h
                  rw [← e_σ332] at hW
                  refine lv_aload_n hx hb d_MD_planned_111 rfl (lv_at hl 0 rfl) ?_
                  refine lv_dup hx hb d_MD_planned_112 rfl ?_
                  refine gf_MD_123 C hW.1 d_MD_planned_113 ?_
                  refine lv_iconst (v := 1) hx hb d_MD_planned_116 (by decide) ?_
                  refine lv_iadd hx hb d_MD_planned_117 ?_
                  refine pf_MD_123 C hD hW d_MD_planned_118 (fun H locs hW => ?_)
                  obtain ⟨σ333, e_σ333, h⟩ := lt1_some h
                  rw [← e_σ333] at hW
                  refine lv_aload_n hx hb d_MD_planned_121 rfl (lv_at hl 0 rfl) ?_
                  refine lv_iload_n hx hb d_MD_planned_122 rfl (lv_at hl 2 rfl) ?_
                  refine lv_iload_n hx hb d_MD_planned_123 rfl (lv_at hl 3 rfl) ?_
                  obtain ⟨r334, g_r334, h⟩ := ob_some h
                  refine cl_MD_139 (rest := []) C (hml.trans hl.1.symm) hW.1 g_r334 ⟨Nat.le_of_ble_eq_true rfl, Nat.le_of_ble_eq_true rfl⟩ (Nat.le_of_ble_eq_true rfl) d_MD_planned_124 ⟨Nat.zero_le _, Nat.zero_le _⟩ ?_
                  refine lv_istore (lv' := [(5, .int r334), (0, .ref (ad 0)), (1, .int x1), (2, .int x2), (3, .int x3), (4, .int x4)]) hx hb d_MD_planned_127 hl (by decide) rfl (fun ls hl => ?_)
                  refine lv_iconst (v := 0) hx hb d_MD_planned_129 (by decide) ?_
                  refine lv_istore (lv' := [(6, .int 0), (5, .int r334), (0, .ref (ad 0)), (1, .int x1), (2, .int x2), (3, .int x3), (4, .int x4)]) hx hb d_MD_planned_130 hl (by decide) rfl (fun ls hl => ?_)
                  have k132 : ∀ (n132 : Nat) (x2 : Int32) (x3 : Int32) (x4 : Int32) (x5 : Int32) (x6 : Int32) (σ : Sg) (h : L_MD_planned_132 n132 x2 x3 x4 x5 x6 σ = some out) (H : Heap) (locs : List Loc) (hW : WR G ad cI cZ s σ H locs) (ls : Array Slot) (hl : lv_has ls 7 [(0, .ref (ad 0)), (2, .int x2), (3, .int x3), (4, .int x4), (5, .int x5), (6, .int x6)]), W p l e (headSpec wl_MD_planned ({ frames := 4, cells := 0, slots := 0, locals := 97 } : Room)).room s m (([.ref (ad 0), .int a1, .int a2, .int a3, .int a4] : List Value).toArray) below meth c H locs 0 0 (MQ below (QRi G ad cI cZ out) (([.ref (ad 0), .int a1, .int a2, .int a3, .int a4] : List Value).toArray) s 0 0 (AR ad)) (F0 m 132 ls []) := by
                    intro n132
                    induction n132 with
                    | zero =>
                      intro x2 x3 x4 x5 x6 σ h
                      exact absurd h (by intro z; cases z)
                    | succ n132 ih132 =>
                      intro x2 x3 x4 x5 x6 σ h H locs hW ls hl
                      replace h : B_MD_planned_132 (L_MD_planned_132 n132) x2 x3 x4 x5 x6 σ = some out := h
                      unfold B_MD_planned_132 at h
                      refine lv_iload hx hb d_MD_planned_132 (lv_at hl 5 rfl) ?_
                      refine lv_aload_n hx hb d_MD_planned_134 rfl (lv_at hl 0 rfl) ?_
                      refine gf_MD_123 C hW.1 d_MD_planned_135 ?_
                      refine lv_iconst (v := 1) hx hb d_MD_planned_138 (by decide) ?_
                      refine lv_isub hx hb d_MD_planned_139 ?_
                      refine lv_icmp_ge (tgt := 192) hx hb d_MD_planned_140 (by decide) (fun c335 => ?_) (fun c335 => ?_)
                      · rw [if_pos c335] at h
                        refine lv_aload_n hx hb d_MD_planned_192 rfl (lv_at hl 0 rfl) ?_
                        refine lv_iload hx hb d_MD_planned_193 (lv_at hl 4 rfl) ?_
                        refine lv_if_eq (tgt := 205) hx hb d_MD_planned_195 (by decide) (fun c341 => ?_) (fun c341 => ?_)
                        · rw [if_pos c341] at h
                          refine lv_aload_n hx hb d_MD_planned_205 rfl (lv_at hl 0 rfl) ?_
                          refine gf_MD_123 C hW.1 d_MD_planned_206 ?_
                          refine lv_iconst (v := 1) hx hb d_MD_planned_209 (by decide) ?_
                          refine lv_isub hx hb d_MD_planned_210 ?_
                          refine pf_MD_123 C hD hW d_MD_planned_211 (fun H locs hW => ?_)
                          obtain ⟨σ344, e_σ344, h⟩ := lt1_some h
                          rw [← e_σ344] at hW
                          refine lv_iload hx hb d_MD_planned_214 (lv_at hl 4 rfl) ?_
                          refine lv_if_eq (tgt := 223) hx hb d_MD_planned_216 (by decide) (fun c345 => ?_) (fun c345 => ?_)
                          · rw [if_pos c345] at h
                            refine lv_iconst (v := 1) hx hb d_MD_planned_223 (by decide) ?_
                            exact W.iret hx hb hr (fun t ht _ => qr_i h ht hW) hW.2.2.2 d_MD_planned_224
                          · rw [if_neg c345] at h
                            refine lv_iconst (v := 0) hx hb d_MD_planned_219 (by decide) ?_
                            refine lv_goto (tgt := 224) hx hb d_MD_planned_220 (by decide) ?_
                            exact W.iret hx hb hr (fun t ht _ => qr_i h ht hW) hW.2.2.2 d_MD_planned_224
                        · rw [if_neg c341] at h
                          refine lv_aload_n hx hb d_MD_planned_198 rfl (lv_at hl 0 rfl) ?_
                          refine gf_MD_123 C hW.1 d_MD_planned_199 ?_
                          refine lv_goto (tgt := 211) hx hb d_MD_planned_202 (by decide) ?_
                          refine pf_MD_123 C hD hW d_MD_planned_211 (fun H locs hW => ?_)
                          obtain ⟨σ342, e_σ342, h⟩ := lt1_some h
                          rw [← e_σ342] at hW
                          refine lv_iload hx hb d_MD_planned_214 (lv_at hl 4 rfl) ?_
                          refine lv_if_eq (tgt := 223) hx hb d_MD_planned_216 (by decide) (fun c343 => ?_) (fun c343 => ?_)
                          · rw [if_pos c343] at h
                            refine lv_iconst (v := 1) hx hb d_MD_planned_223 (by decide) ?_
                            exact W.iret hx hb hr (fun t ht _ => qr_i h ht hW) hW.2.2.2 d_MD_planned_224
                          · rw [if_neg c343] at h
                            refine lv_iconst (v := 0) hx hb d_MD_planned_219 (by decide) ?_
                            refine lv_goto (tgt := 224) hx hb d_MD_planned_220 (by decide) ?_
                            exact W.iret hx hb hr (fun t ht _ => qr_i h ht hW) hW.2.2.2 d_MD_planned_224
                      · rw [if_neg c335] at h
                        refine lv_iload hx hb d_MD_planned_143 (lv_at hl 4 rfl) ?_
                        refine lv_if_eq (tgt := 183) hx hb d_MD_planned_145 (by decide) (fun c336 => ?_) (fun c336 => ?_)
                        · rw [if_pos c336] at h
                          refine lv_iconst (v := 0) hx hb d_MD_planned_183 (by decide) ?_
                          refine lv_istore (lv' := [(5, .int 0), (0, .ref (ad 0)), (2, .int x2), (3, .int x3), (4, .int x4), (6, .int x6)]) hx hb d_MD_planned_184 hl (by decide) rfl (fun ls hl => ?_)
                          refine lv_iinc (v := x6 + 1) (lv' := [(6, .int (x6 + 1)), (5, .int 0), (0, .ref (ad 0)), (2, .int x2), (3, .int x3), (4, .int x4)]) hx hb d_MD_planned_186 hl (k := 5) rfl rfl (by decide) rfl (fun ls hl => ?_)
                          refine lv_goto (tgt := 132) hx hb d_MD_planned_189 (by decide) ?_
                          exact ih132 x2 x3 x4 0 (x6 + 1) σ h _ _ hW _ (lv_sub hl [2, 3, 4, 5, 1, 0] rfl)
                        · rw [if_neg c336] at h
                          refine lv_aload_n hx hb d_MD_planned_148 rfl (lv_at hl 0 rfl) ?_
                          refine gf_MD_65 C hW.1 d_MD_planned_149 ?_
                          refine lv_iload hx hb d_MD_planned_152 (lv_at hl 5 rfl) ?_
                          obtain ⟨hin, h⟩ := gd_some h
                          refine alR_19 C hW.1 hin d_MD_planned_154 ?_
                          refine lv_iload_n hx hb d_MD_planned_155 rfl (lv_at hl 2 rfl) ?_
                          refine lv_iload hx hb d_MD_planned_156 (lv_at hl 3 rfl) ?_
                          obtain ⟨r337, g_r337, h⟩ := ob_some h
                          refine cl_MD_98 (rest := []) C (hml.trans hl.1.symm) hW.1 g_r337 ⟨Nat.le_of_ble_eq_true rfl, Nat.le_of_ble_eq_true rfl⟩ (Nat.le_of_ble_eq_true rfl) d_MD_planned_158 ⟨Nat.zero_le _, Nat.zero_le _⟩ ?_
                          refine lv_if_eq (tgt := 179) hx hb d_MD_planned_161 (by decide) (fun c338 => ?_) (fun c338 => ?_)
                          · rw [if_pos c338] at h
                            refine lv_iconst (v := 1) hx hb d_MD_planned_179 (by decide) ?_
                            refine lv_goto (tgt := 184) hx hb d_MD_planned_180 (by decide) ?_
                            refine lv_istore (lv' := [(5, .int 1), (0, .ref (ad 0)), (2, .int x2), (3, .int x3), (4, .int x4), (6, .int x6)]) hx hb d_MD_planned_184 hl (by decide) rfl (fun ls hl => ?_)
                            refine lv_iinc (v := x6 + 1) (lv' := [(6, .int (x6 + 1)), (5, .int 1), (0, .ref (ad 0)), (2, .int x2), (3, .int x3), (4, .int x4)]) hx hb d_MD_planned_186 hl (k := 5) rfl rfl (by decide) rfl (fun ls hl => ?_)
                            refine lv_goto (tgt := 132) hx hb d_MD_planned_189 (by decide) ?_
                            exact ih132 x2 x3 x4 1 (x6 + 1) σ h _ _ hW _ (lv_sub hl [2, 3, 4, 5, 1, 0] rfl)
                          · rw [if_neg c338] at h
                            refine lv_aload_n hx hb d_MD_planned_164 rfl (lv_at hl 0 rfl) ?_
                            refine lv_iload_n hx hb d_MD_planned_165 rfl (lv_at hl 1 rfl) ?_
                            refine lv_aload_n hx hb d_MD_planned_166 rfl (lv_at hl 0 rfl) ?_
                            refine gf_MD_65 C hW.1 d_MD_planned_167 ?_
                            refine lv_iload hx hb d_MD_planned_170 (lv_at hl 5 rfl) ?_
                            obtain ⟨hin, h⟩ := gd_some h
                            refine alR_19 C hW.1 hin d_MD_planned_172 ?_
                            obtain ⟨r339, g_r339, h⟩ := ob_some h
                            refine cl_MD_139 (rest := []) C (hml.trans hl.1.symm) hW.1 g_r339 ⟨Nat.le_of_ble_eq_true rfl, Nat.le_of_ble_eq_true rfl⟩ (Nat.le_of_ble_eq_true rfl) d_MD_planned_173 ⟨Nat.zero_le _, Nat.zero_le _⟩ ?_
                            refine lv_if_eq (tgt := 183) hx hb d_MD_planned_176 (by decide) (fun c340 => ?_) (fun c340 => ?_)
                            · rw [if_pos c340] at h
                              refine lv_iconst (v := 0) hx hb d_MD_planned_183 (by decide) ?_
                              refine lv_istore (lv' := [(5, .int 0), (0, .ref (ad 0)), (2, .int x2), (3, .int x3), (4, .int x4), (6, .int x6)]) hx hb d_MD_planned_184 hl (by decide) rfl (fun ls hl => ?_)
                              refine lv_iinc (v := x6 + 1) (lv' := [(6, .int (x6 + 1)), (5, .int 0), (0, .ref (ad 0)), (2, .int x2), (3, .int x3), (4, .int x4)]) hx hb d_MD_planned_186 hl (k := 5) rfl rfl (by decide) rfl (fun ls hl => ?_)
                              refine lv_goto (tgt := 132) hx hb d_MD_planned_189 (by decide) ?_
                              exact ih132 x2 x3 x4 0 (x6 + 1) σ h _ _ hW _ (lv_sub hl [2, 3, 4, 5, 1, 0] rfl)
                            · rw [if_neg c340] at h
                              refine lv_iconst (v := 1) hx hb d_MD_planned_179 (by decide) ?_
                              refine lv_goto (tgt := 184) hx hb d_MD_planned_180 (by decide) ?_
                              refine lv_istore (lv' := [(5, .int 1), (0, .ref (ad 0)), (2, .int x2), (3, .int x3), (4, .int x4), (6, .int x6)]) hx hb d_MD_planned_184 hl (by decide) rfl (fun ls hl => ?_)
                              refine lv_iinc (v := x6 + 1) (lv' := [(6, .int (x6 + 1)), (5, .int 1), (0, .ref (ad 0)), (2, .int x2), (3, .int x3), (4, .int x4)]) hx hb d_MD_planned_186 hl (k := 5) rfl rfl (by decide) rfl (fun ls hl => ?_)
                              refine lv_goto (tgt := 132) hx hb d_MD_planned_189 (by decide) ?_
                              exact ih132 x2 x3 x4 1 (x6 + 1) σ h _ _ hW _ (lv_sub hl [2, 3, 4, 5, 1, 0] rfl)
                  exact k132 _ x2 x3 x4 r334 0 σ333 h _ _ hW _ (lv_sub hl [2, 4, 5, 6, 1, 0] rfl)
                · rw [if_pos c328] at h
                  refine lv_iconst (v := 0) hx hb d_MD_planned_68 (by decide) ?_
                  exact W.iret hx hb hr (fun t ht _ => qr_i h ht hW) hW.2.2.2 d_MD_planned_69
              exact k62 x1 x2 x3 x4 1 1 s0 σ h _ _ hW _ (lv_sub hl [0, 1, 2, 3, 4] rfl)
    exact k22 a1 a2 a3 a4 0 σ h _ _ hW _ (lv_sub hl [0, 1, 2, 3, 4] rfl)
  · rw [if_neg c2] at h
    refine lv_aload_n hx hb d_MD_planned_9 rfl (lv_at hl 0 rfl) ?_
    refine lv_iload_n hx hb d_MD_planned_10 rfl (lv_at hl 2 rfl) ?_
    obtain ⟨r3, g_r3, h⟩ := ob_some h
    refine cl_MD_93 (rest := [.ref (ad 0)]) C (hml.trans hl.1.symm) hW.1 g_r3 ⟨Nat.le_of_ble_eq_true rfl, Nat.le_of_ble_eq_true rfl⟩ (Nat.le_of_ble_eq_true rfl) d_MD_planned_11 ⟨Nat.zero_le _, Nat.zero_le _⟩ ?_
    refine lv_if_eq (tgt := 21) hx hb d_MD_planned_14 (by decide) (fun c4 => ?_) (fun c4 => ?_)
    · rw [if_pos c4] at h
      refine lv_iconst (v := 0) hx hb d_MD_planned_21 (by decide) ?_
      have k22 : ∀ (x1 : Int32) (x2 : Int32) (x3 : Int32) (x4 : Int32) (s0 : Int32) (σ : Sg) (h : C_MD_planned_22 x1 x2 x3 x4 s0 σ = some out) (H : Heap) (locs : List Loc) (hW : WR G ad cI cZ s σ H locs) (ls : Array Slot) (hl : lv_has ls 7 [(0, .ref (ad 0)), (1, .int x1), (2, .int x2), (3, .int x3), (4, .int x4)]), W p l e (headSpec wl_MD_planned ({ frames := 4, cells := 0, slots := 0, locals := 97 } : Room)).room s m (([.ref (ad 0), .int a1, .int a2, .int a3, .int a4] : List Value).toArray) below meth c H locs 0 0 (MQ below (QRi G ad cI cZ out) (([.ref (ad 0), .int a1, .int a2, .int a3, .int a4] : List Value).toArray) s 0 0 (AR ad)) (F0 m 22 ls [.int s0, .ref (ad 0)]) := by
        intro x1 x2 x3 x4 s0 σ h H locs hW ls hl
        unfold C_MD_planned_22 at h
        refine lv_iload_n hx hb d_MD_planned_22 rfl (lv_at hl 3 rfl) ?_
        refine lv_aload_n hx hb d_MD_planned_23 rfl (lv_at hl 0 rfl) ?_
        refine gf_MD_145 C hW.1 d_MD_planned_24 ?_
        refine lv_icmp_lt (tgt := 47) hx hb d_MD_planned_27 (by decide) (fun c164 => ?_) (fun c164 => ?_)
        · rw [if_pos c164] at h
          refine lv_iconst (v := 0) hx hb d_MD_planned_47 (by decide) ?_
          refine lv_aload_n hx hb d_MD_planned_48 rfl (lv_at hl 0 rfl) ?_
          refine gf_MD_123 C hW.1 d_MD_planned_49 ?_
          refine lv_bipush (v := 30) hx hb d_MD_planned_52 (by decide) ?_
          refine lv_icmp_ge (tgt := 61) hx hb d_MD_planned_54 (by decide) (fun c284 => ?_) (fun c284 => ?_)
          · rw [if_pos c284] at h
            refine lv_iconst (v := 0) hx hb d_MD_planned_61 (by decide) ?_
            have k62 : ∀ (x1 : Int32) (x2 : Int32) (x3 : Int32) (x4 : Int32) (s0 : Int32) (s1 : Int32) (s2 : Int32) (σ : Sg) (h : C_MD_planned_62 x1 x2 x3 x4 s0 s1 s2 σ = some out) (H : Heap) (locs : List Loc) (hW : WR G ad cI cZ s σ H locs) (ls : Array Slot) (hl : lv_has ls 7 [(0, .ref (ad 0)), (1, .int x1), (2, .int x2), (3, .int x3), (4, .int x4)]), W p l e (headSpec wl_MD_planned ({ frames := 4, cells := 0, slots := 0, locals := 97 } : Room)).room s m (([.ref (ad 0), .int a1, .int a2, .int a3, .int a4] : List Value).toArray) below meth c H locs 0 0 (MQ below (QRi G ad cI cZ out) (([.ref (ad 0), .int a1, .int a2, .int a3, .int a4] : List Value).toArray) s 0 0 (AR ad)) (F0 m 62 ls [.int s0, .int s1, .int s2, .ref (ad 0)]) := by
              intro x1 x2 x3 x4 s0 s1 s2 σ h H locs hW ls hl
              unfold C_MD_planned_62 at h
              obtain ⟨r304, g_r304, h⟩ := ob_some h
              refine cl_MD_102 (rest := []) C hD (hml.trans hl.1.symm) hW g_r304 ⟨Nat.le_of_ble_eq_true rfl, Nat.le_of_ble_eq_true rfl⟩ (Nat.le_of_ble_eq_true rfl) d_MD_planned_62 ⟨Nat.zero_le _, Nat.zero_le _⟩ (fun H locs hW => ?_)
              refine lv_if_ne (tgt := 70) hx hb d_MD_planned_65 (by decide) (fun c305 => ?_) (fun c305 => ?_)
              · rw [if_neg c305] at h
                refine lv_aload_n hx hb d_MD_planned_70 rfl (lv_at hl 0 rfl) ?_
                refine gf_MD_59 C hW.1 d_MD_planned_71 ?_
                refine lv_aload_n hx hb d_MD_planned_74 rfl (lv_at hl 0 rfl) ?_
                refine gf_MD_123 C hW.1 d_MD_planned_75 ?_
                refine lv_iload_n hx hb d_MD_planned_78 rfl (lv_at hl 1 rfl) ?_
                obtain ⟨hin, h⟩ := gd_some h
                refine asR_17 C hD hW hin d_MD_planned_79 (fun H locs hW => ?_)
                obtain ⟨σ306, e_σ306, h⟩ := lt1_some h
                rw [← e_σ306] at hW
                refine lv_aload_n hx hb d_MD_planned_80 rfl (lv_at hl 0 rfl) ?_
                refine gf_MD_62 C hW.1 d_MD_planned_81 ?_
                refine lv_aload_n hx hb d_MD_planned_84 rfl (lv_at hl 0 rfl) ?_
                refine gf_MD_123 C hW.1 d_MD_planned_85 ?_
                refine lv_iload_n hx hb d_MD_planned_88 rfl (lv_at hl 2 rfl) ?_
                obtain ⟨hin, h⟩ := gd_some h
                refine asR_18 C hD hW hin d_MD_planned_89 (fun H locs hW => ?_)
                obtain ⟨σ307, e_σ307, h⟩ := lt1_some h
                rw [← e_σ307] at hW
                refine lv_aload_n hx hb d_MD_planned_90 rfl (lv_at hl 0 rfl) ?_
                refine gf_MD_65 C hW.1 d_MD_planned_91 ?_
                refine lv_aload_n hx hb d_MD_planned_94 rfl (lv_at hl 0 rfl) ?_
                refine gf_MD_123 C hW.1 d_MD_planned_95 ?_
                refine lv_iload_n hx hb d_MD_planned_98 rfl (lv_at hl 3 rfl) ?_
                obtain ⟨hin, h⟩ := gd_some h
                refine asR_19 C hD hW hin d_MD_planned_99 (fun H locs hW => ?_)
                obtain ⟨σ308, e_σ308, h⟩ := lt1_some h
                rw [← e_σ308] at hW
                refine lv_aload_n hx hb d_MD_planned_100 rfl (lv_at hl 0 rfl) ?_
                refine gf_MD_68 C hW.1 d_MD_planned_101 ?_
                refine lv_aload_n hx hb d_MD_planned_104 rfl (lv_at hl 0 rfl) ?_
                refine gf_MD_123 C hW.1 d_MD_planned_105 ?_
                refine lv_iload hx hb d_MD_planned_108 (lv_at hl 4 rfl) ?_
                obtain ⟨hin, h⟩ := gd_some h
                refine asR_20 C hD hW hin d_MD_planned_110 (fun H locs hW => ?_)
                obtain ⟨σ309, e_σ309, h⟩ := lt1_some h
                rw [← e_σ309] at hW
                refine lv_aload_n hx hb d_MD_planned_111 rfl (lv_at hl 0 rfl) ?_
                refine lv_dup hx hb d_MD_planned_112 rfl ?_
                refine gf_MD_123 C hW.1 d_MD_planned_113 ?_
                refine lv_iconst (v := 1) hx hb d_MD_planned_116 (by decide) ?_
                refine lv_iadd hx hb d_MD_planned_117 ?_
                refine pf_MD_123 C hD hW d_MD_planned_118 (fun H locs hW => ?_)
                obtain ⟨σ310, e_σ310, h⟩ := lt1_some h
                rw [← e_σ310] at hW
                refine lv_aload_n hx hb d_MD_planned_121 rfl (lv_at hl 0 rfl) ?_
                refine lv_iload_n hx hb d_MD_planned_122 rfl (lv_at hl 2 rfl) ?_
                refine lv_iload_n hx hb d_MD_planned_123 rfl (lv_at hl 3 rfl) ?_
                obtain ⟨r311, g_r311, h⟩ := ob_some h
                refine cl_MD_139 (rest := []) C (hml.trans hl.1.symm) hW.1 g_r311 ⟨Nat.le_of_ble_eq_true rfl, Nat.le_of_ble_eq_true rfl⟩ (Nat.le_of_ble_eq_true rfl) d_MD_planned_124 ⟨Nat.zero_le _, Nat.zero_le _⟩ ?_
                refine lv_istore (lv' := [(5, .int r311), (0, .ref (ad 0)), (1, .int x1), (2, .int x2), (3, .int x3), (4, .int x4)]) hx hb d_MD_planned_127 hl (by decide) rfl (fun ls hl => ?_)
                refine lv_iconst (v := 0) hx hb d_MD_planned_129 (by decide) ?_
                refine lv_istore (lv' := [(6, .int 0), (5, .int r311), (0, .ref (ad 0)), (1, .int x1), (2, .int x2), (3, .int x3), (4, .int x4)]) hx hb d_MD_planned_130 hl (by decide) rfl (fun ls hl => ?_)
                have k132 : ∀ (n132 : Nat) (x2 : Int32) (x3 : Int32) (x4 : Int32) (x5 : Int32) (x6 : Int32) (σ : Sg) (h : L_MD_planned_132 n132 x2 x3 x4 x5 x6 σ = some out) (H : Heap) (locs : List Loc) (hW : WR G ad cI cZ s σ H locs) (ls : Array Slot) (hl : lv_has ls 7 [(0, .ref (ad 0)), (2, .int x2), (3, .int x3), (4, .int x4), (5, .int x5), (6, .int x6)]), W p l e (headSpec wl_MD_planned ({ frames := 4, cells := 0, slots := 0, locals := 97 } : Room)).room s m (([.ref (ad 0), .int a1, .int a2, .int a3, .int a4] : List Value).toArray) below meth c H locs 0 0 (MQ below (QRi G ad cI cZ out) (([.ref (ad 0), .int a1, .int a2, .int a3, .int a4] : List Value).toArray) s 0 0 (AR ad)) (F0 m 132 ls []) := by
                  intro n132
                  induction n132 with
                  | zero =>
                    intro x2 x3 x4 x5 x6 σ h
                    exact absurd h (by intro z; cases z)
                  | succ n132 ih132 =>
                    intro x2 x3 x4 x5 x6 σ h H locs hW ls hl
                    replace h : B_MD_planned_132 (L_MD_planned_132 n132) x2 x3 x4 x5 x6 σ = some out := h
                    unfold B_MD_planned_132 at h
                    refine lv_iload hx hb d_MD_planned_132 (lv_at hl 5 rfl) ?_
                    refine lv_aload_n hx hb d_MD_planned_134 rfl (lv_at hl 0 rfl) ?_
                    refine gf_MD_123 C hW.1 d_MD_planned_135 ?_
                    refine lv_iconst (v := 1) hx hb d_MD_planned_138 (by decide) ?_
                    refine lv_isub hx hb d_MD_planned_139 ?_
                    refine lv_icmp_ge (tgt := 192) hx hb d_MD_planned_140 (by decide) (fun c312 => ?_) (fun c312 => ?_)
                    · rw [if_pos c312] at h
                      refine lv_aload_n hx hb d_MD_planned_192 rfl (lv_at hl 0 rfl) ?_
                      refine lv_iload hx hb d_MD_planned_193 (lv_at hl 4 rfl) ?_
                      refine lv_if_eq (tgt := 205) hx hb d_MD_planned_195 (by decide) (fun c318 => ?_) (fun c318 => ?_)
                      · rw [if_pos c318] at h
                        refine lv_aload_n hx hb d_MD_planned_205 rfl (lv_at hl 0 rfl) ?_
                        refine gf_MD_123 C hW.1 d_MD_planned_206 ?_
                        refine lv_iconst (v := 1) hx hb d_MD_planned_209 (by decide) ?_
                        refine lv_isub hx hb d_MD_planned_210 ?_
                        refine pf_MD_123 C hD hW d_MD_planned_211 (fun H locs hW => ?_)
                        obtain ⟨σ321, e_σ321, h⟩ := lt1_some h
                        rw [← e_σ321] at hW
                        refine lv_iload hx hb d_MD_planned_214 (lv_at hl 4 rfl) ?_
                        refine lv_if_eq (tgt := 223) hx hb d_MD_planned_216 (by decide) (fun c322 => ?_) (fun c322 => ?_)
                        · rw [if_pos c322] at h
                          refine lv_iconst (v := 1) hx hb d_MD_planned_223 (by decide) ?_
                          exact W.iret hx hb hr (fun t ht _ => qr_i h ht hW) hW.2.2.2 d_MD_planned_224
                        · rw [if_neg c322] at h
                          refine lv_iconst (v := 0) hx hb d_MD_planned_219 (by decide) ?_
                          refine lv_goto (tgt := 224) hx hb d_MD_planned_220 (by decide) ?_
                          exact W.iret hx hb hr (fun t ht _ => qr_i h ht hW) hW.2.2.2 d_MD_planned_224
                      · rw [if_neg c318] at h
                        refine lv_aload_n hx hb d_MD_planned_198 rfl (lv_at hl 0 rfl) ?_
                        refine gf_MD_123 C hW.1 d_MD_planned_199 ?_
                        refine lv_goto (tgt := 211) hx hb d_MD_planned_202 (by decide) ?_
                        refine pf_MD_123 C hD hW d_MD_planned_211 (fun H locs hW => ?_)
                        obtain ⟨σ319, e_σ319, h⟩ := lt1_some h
                        rw [← e_σ319] at hW
                        refine lv_iload hx hb d_MD_planned_214 (lv_at hl 4 rfl) ?_
                        refine lv_if_eq (tgt := 223) hx hb d_MD_planned_216 (by decide) (fun c320 => ?_) (fun c320 => ?_)
                        · rw [if_pos c320] at h
                          refine lv_iconst (v := 1) hx hb d_MD_planned_223 (by decide) ?_
                          exact W.iret hx hb hr (fun t ht _ => qr_i h ht hW) hW.2.2.2 d_MD_planned_224
                        · rw [if_neg c320] at h
                          refine lv_iconst (v := 0) hx hb d_MD_planned_219 (by decide) ?_
                          refine lv_goto (tgt := 224) hx hb d_MD_planned_220 (by decide) ?_
                          exact W.iret hx hb hr (fun t ht _ => qr_i h ht hW) hW.2.2.2 d_MD_planned_224
                    · rw [if_neg c312] at h
                      refine lv_iload hx hb d_MD_planned_143 (lv_at hl 4 rfl) ?_
                      refine lv_if_eq (tgt := 183) hx hb d_MD_planned_145 (by decide) (fun c313 => ?_) (fun c313 => ?_)
                      · rw [if_pos c313] at h
                        refine lv_iconst (v := 0) hx hb d_MD_planned_183 (by decide) ?_
                        refine lv_istore (lv' := [(5, .int 0), (0, .ref (ad 0)), (2, .int x2), (3, .int x3), (4, .int x4), (6, .int x6)]) hx hb d_MD_planned_184 hl (by decide) rfl (fun ls hl => ?_)
                        refine lv_iinc (v := x6 + 1) (lv' := [(6, .int (x6 + 1)), (5, .int 0), (0, .ref (ad 0)), (2, .int x2), (3, .int x3), (4, .int x4)]) hx hb d_MD_planned_186 hl (k := 5) rfl rfl (by decide) rfl (fun ls hl => ?_)
                        refine lv_goto (tgt := 132) hx hb d_MD_planned_189 (by decide) ?_
                        exact ih132 x2 x3 x4 0 (x6 + 1) σ h _ _ hW _ (lv_sub hl [2, 3, 4, 5, 1, 0] rfl)
                      · rw [if_neg c313] at h
                        refine lv_aload_n hx hb d_MD_planned_148 rfl (lv_at hl 0 rfl) ?_
                        refine gf_MD_65 C hW.1 d_MD_planned_149 ?_
                        refine lv_iload hx hb d_MD_planned_152 (lv_at hl 5 rfl) ?_
                        obtain ⟨hin, h⟩ := gd_some h
                        refine alR_19 C hW.1 hin d_MD_planned_154 ?_
                        refine lv_iload_n hx hb d_MD_planned_155 rfl (lv_at hl 2 rfl) ?_
                        refine lv_iload hx hb d_MD_planned_156 (lv_at hl 3 rfl) ?_
                        obtain ⟨r314, g_r314, h⟩ := ob_some h
                        refine cl_MD_98 (rest := []) C (hml.trans hl.1.symm) hW.1 g_r314 ⟨Nat.le_of_ble_eq_true rfl, Nat.le_of_ble_eq_true rfl⟩ (Nat.le_of_ble_eq_true rfl) d_MD_planned_158 ⟨Nat.zero_le _, Nat.zero_le _⟩ ?_
                        refine lv_if_eq (tgt := 179) hx hb d_MD_planned_161 (by decide) (fun c315 => ?_) (fun c315 => ?_)
                        · rw [if_pos c315] at h
                          refine lv_iconst (v := 1) hx hb d_MD_planned_179 (by decide) ?_
                          refine lv_goto (tgt := 184) hx hb d_MD_planned_180 (by decide) ?_
                          refine lv_istore (lv' := [(5, .int 1), (0, .ref (ad 0)), (2, .int x2), (3, .int x3), (4, .int x4), (6, .int x6)]) hx hb d_MD_planned_184 hl (by decide) rfl (fun ls hl => ?_)
                          refine lv_iinc (v := x6 + 1) (lv' := [(6, .int (x6 + 1)), (5, .int 1), (0, .ref (ad 0)), (2, .int x2), (3, .int x3), (4, .int x4)]) hx hb d_MD_planned_186 hl (k := 5) rfl rfl (by decide) rfl (fun ls hl => ?_)
                          refine lv_goto (tgt := 132) hx hb d_MD_planned_189 (by decide) ?_
                          exact ih132 x2 x3 x4 1 (x6 + 1) σ h _ _ hW _ (lv_sub hl [2, 3, 4, 5, 1, 0] rfl)
                        · rw [if_neg c315] at h
                          refine lv_aload_n hx hb d_MD_planned_164 rfl (lv_at hl 0 rfl) ?_
                          refine lv_iload_n hx hb d_MD_planned_165 rfl (lv_at hl 1 rfl) ?_
                          refine lv_aload_n hx hb d_MD_planned_166 rfl (lv_at hl 0 rfl) ?_
                          refine gf_MD_65 C hW.1 d_MD_planned_167 ?_
                          refine lv_iload hx hb d_MD_planned_170 (lv_at hl 5 rfl) ?_
                          obtain ⟨hin, h⟩ := gd_some h
                          refine alR_19 C hW.1 hin d_MD_planned_172 ?_
                          obtain ⟨r316, g_r316, h⟩ := ob_some h
                          refine cl_MD_139 (rest := []) C (hml.trans hl.1.symm) hW.1 g_r316 ⟨Nat.le_of_ble_eq_true rfl, Nat.le_of_ble_eq_true rfl⟩ (Nat.le_of_ble_eq_true rfl) d_MD_planned_173 ⟨Nat.zero_le _, Nat.zero_le _⟩ ?_
                          refine lv_if_eq (tgt := 183) hx hb d_MD_planned_176 (by decide) (fun c317 => ?_) (fun c317 => ?_)
                          · rw [if_pos c317] at h
                            refine lv_iconst (v := 0) hx hb d_MD_planned_183 (by decide) ?_
                            refine lv_istore (lv' := [(5, .int 0), (0, .ref (ad 0)), (2, .int x2), (3, .int x3), (4, .int x4), (6, .int x6)]) hx hb d_MD_planned_184 hl (by decide) rfl (fun ls hl => ?_)
                            refine lv_iinc (v := x6 + 1) (lv' := [(6, .int (x6 + 1)), (5, .int 0), (0, .ref (ad 0)), (2, .int x2), (3, .int x3), (4, .int x4)]) hx hb d_MD_planned_186 hl (k := 5) rfl rfl (by decide) rfl (fun ls hl => ?_)
                            refine lv_goto (tgt := 132) hx hb d_MD_planned_189 (by decide) ?_
                            exact ih132 x2 x3 x4 0 (x6 + 1) σ h _ _ hW _ (lv_sub hl [2, 3, 4, 5, 1, 0] rfl)
                          · rw [if_neg c317] at h
                            refine lv_iconst (v := 1) hx hb d_MD_planned_179 (by decide) ?_
                            refine lv_goto (tgt := 184) hx hb d_MD_planned_180 (by decide) ?_
                            refine lv_istore (lv' := [(5, .int 1), (0, .ref (ad 0)), (2, .int x2), (3, .int x3), (4, .int x4), (6, .int x6)]) hx hb d_MD_planned_184 hl (by decide) rfl (fun ls hl => ?_)
                            refine lv_iinc (v := x6 + 1) (lv' := [(6, .int (x6 + 1)), (5, .int 1), (0, .ref (ad 0)), (2, .int x2), (3, .int x3), (4, .int x4)]) hx hb d_MD_planned_186 hl (k := 5) rfl rfl (by decide) rfl (fun ls hl => ?_)
                            refine lv_goto (tgt := 132) hx hb d_MD_planned_189 (by decide) ?_
                            exact ih132 x2 x3 x4 1 (x6 + 1) σ h _ _ hW _ (lv_sub hl [2, 3, 4, 5, 1, 0] rfl)
                exact k132 _ x2 x3 x4 r311 0 σ310 h _ _ hW _ (lv_sub hl [2, 4, 5, 6, 1, 0] rfl)
              · rw [if_pos c305] at h
                refine lv_iconst (v := 0) hx hb d_MD_planned_68 (by decide) ?_
                exact W.iret hx hb hr (fun t ht _ => qr_i h ht hW) hW.2.2.2 d_MD_planned_69
            exact k62 x1 x2 x3 x4 0 0 s0 σ h _ _ hW _ (lv_sub hl [0, 1, 2, 3, 4] rfl)
          · rw [if_neg c284] at h
            refine lv_iconst (v := 1) hx hb d_MD_planned_57 (by decide) ?_
            refine lv_goto (tgt := 62) hx hb d_MD_planned_58 (by decide) ?_
            have k62 : ∀ (x1 : Int32) (x2 : Int32) (x3 : Int32) (x4 : Int32) (s0 : Int32) (s1 : Int32) (s2 : Int32) (σ : Sg) (h : C_MD_planned_62 x1 x2 x3 x4 s0 s1 s2 σ = some out) (H : Heap) (locs : List Loc) (hW : WR G ad cI cZ s σ H locs) (ls : Array Slot) (hl : lv_has ls 7 [(0, .ref (ad 0)), (1, .int x1), (2, .int x2), (3, .int x3), (4, .int x4)]), W p l e (headSpec wl_MD_planned ({ frames := 4, cells := 0, slots := 0, locals := 97 } : Room)).room s m (([.ref (ad 0), .int a1, .int a2, .int a3, .int a4] : List Value).toArray) below meth c H locs 0 0 (MQ below (QRi G ad cI cZ out) (([.ref (ad 0), .int a1, .int a2, .int a3, .int a4] : List Value).toArray) s 0 0 (AR ad)) (F0 m 62 ls [.int s0, .int s1, .int s2, .ref (ad 0)]) := by
              intro x1 x2 x3 x4 s0 s1 s2 σ h H locs hW ls hl
              unfold C_MD_planned_62 at h
              obtain ⟨r285, g_r285, h⟩ := ob_some h
              refine cl_MD_102 (rest := []) C hD (hml.trans hl.1.symm) hW g_r285 ⟨Nat.le_of_ble_eq_true rfl, Nat.le_of_ble_eq_true rfl⟩ (Nat.le_of_ble_eq_true rfl) d_MD_planned_62 ⟨Nat.zero_le _, Nat.zero_le _⟩ (fun H locs hW => ?_)
              refine lv_if_ne (tgt := 70) hx hb d_MD_planned_65 (by decide) (fun c286 => ?_) (fun c286 => ?_)
              · rw [if_neg c286] at h
                refine lv_aload_n hx hb d_MD_planned_70 rfl (lv_at hl 0 rfl) ?_
                refine gf_MD_59 C hW.1 d_MD_planned_71 ?_
                refine lv_aload_n hx hb d_MD_planned_74 rfl (lv_at hl 0 rfl) ?_
                refine gf_MD_123 C hW.1 d_MD_planned_75 ?_
                refine lv_iload_n hx hb d_MD_planned_78 rfl (lv_at hl 1 rfl) ?_
                obtain ⟨hin, h⟩ := gd_some h
                refine asR_17 C hD hW hin d_MD_planned_79 (fun H locs hW => ?_)
                obtain ⟨σ287, e_σ287, h⟩ := lt1_some h
                rw [← e_σ287] at hW
                refine lv_aload_n hx hb d_MD_planned_80 rfl (lv_at hl 0 rfl) ?_
                refine gf_MD_62 C hW.1 d_MD_planned_81 ?_
                refine lv_aload_n hx hb d_MD_planned_84 rfl (lv_at hl 0 rfl) ?_
                refine gf_MD_123 C hW.1 d_MD_planned_85 ?_
                refine lv_iload_n hx hb d_MD_planned_88 rfl (lv_at hl 2 rfl) ?_
                obtain ⟨hin, h⟩ := gd_some h
                refine asR_18 C hD hW hin d_MD_planned_89 (fun H locs hW => ?_)
                obtain ⟨σ288, e_σ288, h⟩ := lt1_some h
                rw [← e_σ288] at hW
                refine lv_aload_n hx hb d_MD_planned_90 rfl (lv_at hl 0 rfl) ?_
                refine gf_MD_65 C hW.1 d_MD_planned_91 ?_
                refine lv_aload_n hx hb d_MD_planned_94 rfl (lv_at hl 0 rfl) ?_
                refine gf_MD_123 C hW.1 d_MD_planned_95 ?_
                refine lv_iload_n hx hb d_MD_planned_98 rfl (lv_at hl 3 rfl) ?_
                obtain ⟨hin, h⟩ := gd_some h
                refine asR_19 C hD hW hin d_MD_planned_99 (fun H locs hW => ?_)
                obtain ⟨σ289, e_σ289, h⟩ := lt1_some h
                rw [← e_σ289] at hW
                refine lv_aload_n hx hb d_MD_planned_100 rfl (lv_at hl 0 rfl) ?_
                refine gf_MD_68 C hW.1 d_MD_planned_101 ?_
                refine lv_aload_n hx hb d_MD_planned_104 rfl (lv_at hl 0 rfl) ?_
                refine gf_MD_123 C hW.1 d_MD_planned_105 ?_
                refine lv_iload hx hb d_MD_planned_108 (lv_at hl 4 rfl) ?_
                obtain ⟨hin, h⟩ := gd_some h
                refine asR_20 C hD hW hin d_MD_planned_110 (fun H locs hW => ?_)
                obtain ⟨σ290, e_σ290, h⟩ := lt1_some h
                rw [← e_σ290] at hW
                refine lv_aload_n hx hb d_MD_planned_111 rfl (lv_at hl 0 rfl) ?_
                refine lv_dup hx hb d_MD_planned_112 rfl ?_
                refine gf_MD_123 C hW.1 d_MD_planned_113 ?_
                refine lv_iconst (v := 1) hx hb d_MD_planned_116 (by decide) ?_
                refine lv_iadd hx hb d_MD_planned_117 ?_
                refine pf_MD_123 C hD hW d_MD_planned_118 (fun H locs hW => ?_)
                obtain ⟨σ291, e_σ291, h⟩ := lt1_some h
                rw [← e_σ291] at hW
                refine lv_aload_n hx hb d_MD_planned_121 rfl (lv_at hl 0 rfl) ?_
                refine lv_iload_n hx hb d_MD_planned_122 rfl (lv_at hl 2 rfl) ?_
                refine lv_iload_n hx hb d_MD_planned_123 rfl (lv_at hl 3 rfl) ?_
                obtain ⟨r292, g_r292, h⟩ := ob_some h
                refine cl_MD_139 (rest := []) C (hml.trans hl.1.symm) hW.1 g_r292 ⟨Nat.le_of_ble_eq_true rfl, Nat.le_of_ble_eq_true rfl⟩ (Nat.le_of_ble_eq_true rfl) d_MD_planned_124 ⟨Nat.zero_le _, Nat.zero_le _⟩ ?_
                refine lv_istore (lv' := [(5, .int r292), (0, .ref (ad 0)), (1, .int x1), (2, .int x2), (3, .int x3), (4, .int x4)]) hx hb d_MD_planned_127 hl (by decide) rfl (fun ls hl => ?_)
                refine lv_iconst (v := 0) hx hb d_MD_planned_129 (by decide) ?_
                refine lv_istore (lv' := [(6, .int 0), (5, .int r292), (0, .ref (ad 0)), (1, .int x1), (2, .int x2), (3, .int x3), (4, .int x4)]) hx hb d_MD_planned_130 hl (by decide) rfl (fun ls hl => ?_)
                have k132 : ∀ (n132 : Nat) (x2 : Int32) (x3 : Int32) (x4 : Int32) (x5 : Int32) (x6 : Int32) (σ : Sg) (h : L_MD_planned_132 n132 x2 x3 x4 x5 x6 σ = some out) (H : Heap) (locs : List Loc) (hW : WR G ad cI cZ s σ H locs) (ls : Array Slot) (hl : lv_has ls 7 [(0, .ref (ad 0)), (2, .int x2), (3, .int x3), (4, .int x4), (5, .int x5), (6, .int x6)]), W p l e (headSpec wl_MD_planned ({ frames := 4, cells := 0, slots := 0, locals := 97 } : Room)).room s m (([.ref (ad 0), .int a1, .int a2, .int a3, .int a4] : List Value).toArray) below meth c H locs 0 0 (MQ below (QRi G ad cI cZ out) (([.ref (ad 0), .int a1, .int a2, .int a3, .int a4] : List Value).toArray) s 0 0 (AR ad)) (F0 m 132 ls []) := by
                  intro n132
                  induction n132 with
                  | zero =>
                    intro x2 x3 x4 x5 x6 σ h
                    exact absurd h (by intro z; cases z)
                  | succ n132 ih132 =>
                    intro x2 x3 x4 x5 x6 σ h H locs hW ls hl
                    replace h : B_MD_planned_132 (L_MD_planned_132 n132) x2 x3 x4 x5 x6 σ = some out := h
                    unfold B_MD_planned_132 at h
                    refine lv_iload hx hb d_MD_planned_132 (lv_at hl 5 rfl) ?_
                    refine lv_aload_n hx hb d_MD_planned_134 rfl (lv_at hl 0 rfl) ?_
                    refine gf_MD_123 C hW.1 d_MD_planned_135 ?_
                    refine lv_iconst (v := 1) hx hb d_MD_planned_138 (by decide) ?_
                    refine lv_isub hx hb d_MD_planned_139 ?_
                    refine lv_icmp_ge (tgt := 192) hx hb d_MD_planned_140 (by decide) (fun c293 => ?_) (fun c293 => ?_)
                    · rw [if_pos c293] at h
                      refine lv_aload_n hx hb d_MD_planned_192 rfl (lv_at hl 0 rfl) ?_
                      refine lv_iload hx hb d_MD_planned_193 (lv_at hl 4 rfl) ?_
                      refine lv_if_eq (tgt := 205) hx hb d_MD_planned_195 (by decide) (fun c299 => ?_) (fun c299 => ?_)
                      · rw [if_pos c299] at h
                        refine lv_aload_n hx hb d_MD_planned_205 rfl (lv_at hl 0 rfl) ?_
                        refine gf_MD_123 C hW.1 d_MD_planned_206 ?_
                        refine lv_iconst (v := 1) hx hb d_MD_planned_209 (by decide) ?_
                        refine lv_isub hx hb d_MD_planned_210 ?_
                        refine pf_MD_123 C hD hW d_MD_planned_211 (fun H locs hW => ?_)
                        obtain ⟨σ302, e_σ302, h⟩ := lt1_some h
                        rw [← e_σ302] at hW
                        refine lv_iload hx hb d_MD_planned_214 (lv_at hl 4 rfl) ?_
                        refine lv_if_eq (tgt := 223) hx hb d_MD_planned_216 (by decide) (fun c303 => ?_) (fun c303 => ?_)
                        · rw [if_pos c303] at h
                          refine lv_iconst (v := 1) hx hb d_MD_planned_223 (by decide) ?_
                          exact W.iret hx hb hr (fun t ht _ => qr_i h ht hW) hW.2.2.2 d_MD_planned_224
                        · rw [if_neg c303] at h
                          refine lv_iconst (v := 0) hx hb d_MD_planned_219 (by decide) ?_
                          refine lv_goto (tgt := 224) hx hb d_MD_planned_220 (by decide) ?_
                          exact W.iret hx hb hr (fun t ht _ => qr_i h ht hW) hW.2.2.2 d_MD_planned_224
                      · rw [if_neg c299] at h
                        refine lv_aload_n hx hb d_MD_planned_198 rfl (lv_at hl 0 rfl) ?_
                        refine gf_MD_123 C hW.1 d_MD_planned_199 ?_
                        refine lv_goto (tgt := 211) hx hb d_MD_planned_202 (by decide) ?_
                        refine pf_MD_123 C hD hW d_MD_planned_211 (fun H locs hW => ?_)
                        obtain ⟨σ300, e_σ300, h⟩ := lt1_some h
                        rw [← e_σ300] at hW
                        refine lv_iload hx hb d_MD_planned_214 (lv_at hl 4 rfl) ?_
                        refine lv_if_eq (tgt := 223) hx hb d_MD_planned_216 (by decide) (fun c301 => ?_) (fun c301 => ?_)
                        · rw [if_pos c301] at h
                          refine lv_iconst (v := 1) hx hb d_MD_planned_223 (by decide) ?_
                          exact W.iret hx hb hr (fun t ht _ => qr_i h ht hW) hW.2.2.2 d_MD_planned_224
                        · rw [if_neg c301] at h
                          refine lv_iconst (v := 0) hx hb d_MD_planned_219 (by decide) ?_
                          refine lv_goto (tgt := 224) hx hb d_MD_planned_220 (by decide) ?_
                          exact W.iret hx hb hr (fun t ht _ => qr_i h ht hW) hW.2.2.2 d_MD_planned_224
                    · rw [if_neg c293] at h
                      refine lv_iload hx hb d_MD_planned_143 (lv_at hl 4 rfl) ?_
                      refine lv_if_eq (tgt := 183) hx hb d_MD_planned_145 (by decide) (fun c294 => ?_) (fun c294 => ?_)
                      · rw [if_pos c294] at h
                        refine lv_iconst (v := 0) hx hb d_MD_planned_183 (by decide) ?_
                        refine lv_istore (lv' := [(5, .int 0), (0, .ref (ad 0)), (2, .int x2), (3, .int x3), (4, .int x4), (6, .int x6)]) hx hb d_MD_planned_184 hl (by decide) rfl (fun ls hl => ?_)
                        refine lv_iinc (v := x6 + 1) (lv' := [(6, .int (x6 + 1)), (5, .int 0), (0, .ref (ad 0)), (2, .int x2), (3, .int x3), (4, .int x4)]) hx hb d_MD_planned_186 hl (k := 5) rfl rfl (by decide) rfl (fun ls hl => ?_)
                        refine lv_goto (tgt := 132) hx hb d_MD_planned_189 (by decide) ?_
                        exact ih132 x2 x3 x4 0 (x6 + 1) σ h _ _ hW _ (lv_sub hl [2, 3, 4, 5, 1, 0] rfl)
                      · rw [if_neg c294] at h
                        refine lv_aload_n hx hb d_MD_planned_148 rfl (lv_at hl 0 rfl) ?_
                        refine gf_MD_65 C hW.1 d_MD_planned_149 ?_
                        refine lv_iload hx hb d_MD_planned_152 (lv_at hl 5 rfl) ?_
                        obtain ⟨hin, h⟩ := gd_some h
                        refine alR_19 C hW.1 hin d_MD_planned_154 ?_
                        refine lv_iload_n hx hb d_MD_planned_155 rfl (lv_at hl 2 rfl) ?_
                        refine lv_iload hx hb d_MD_planned_156 (lv_at hl 3 rfl) ?_
                        obtain ⟨r295, g_r295, h⟩ := ob_some h
                        refine cl_MD_98 (rest := []) C (hml.trans hl.1.symm) hW.1 g_r295 ⟨Nat.le_of_ble_eq_true rfl, Nat.le_of_ble_eq_true rfl⟩ (Nat.le_of_ble_eq_true rfl) d_MD_planned_158 ⟨Nat.zero_le _, Nat.zero_le _⟩ ?_
                        refine lv_if_eq (tgt := 179) hx hb d_MD_planned_161 (by decide) (fun c296 => ?_) (fun c296 => ?_)
                        · rw [if_pos c296] at h
                          refine lv_iconst (v := 1) hx hb d_MD_planned_179 (by decide) ?_
                          refine lv_goto (tgt := 184) hx hb d_MD_planned_180 (by decide) ?_
                          refine lv_istore (lv' := [(5, .int 1), (0, .ref (ad 0)), (2, .int x2), (3, .int x3), (4, .int x4), (6, .int x6)]) hx hb d_MD_planned_184 hl (by decide) rfl (fun ls hl => ?_)
                          refine lv_iinc (v := x6 + 1) (lv' := [(6, .int (x6 + 1)), (5, .int 1), (0, .ref (ad 0)), (2, .int x2), (3, .int x3), (4, .int x4)]) hx hb d_MD_planned_186 hl (k := 5) rfl rfl (by decide) rfl (fun ls hl => ?_)
                          refine lv_goto (tgt := 132) hx hb d_MD_planned_189 (by decide) ?_
                          exact ih132 x2 x3 x4 1 (x6 + 1) σ h _ _ hW _ (lv_sub hl [2, 3, 4, 5, 1, 0] rfl)
                        · rw [if_neg c296] at h
                          refine lv_aload_n hx hb d_MD_planned_164 rfl (lv_at hl 0 rfl) ?_
                          refine lv_iload_n hx hb d_MD_planned_165 rfl (lv_at hl 1 rfl) ?_
                          refine lv_aload_n hx hb d_MD_planned_166 rfl (lv_at hl 0 rfl) ?_
                          refine gf_MD_65 C hW.1 d_MD_planned_167 ?_
                          refine lv_iload hx hb d_MD_planned_170 (lv_at hl 5 rfl) ?_
                          obtain ⟨hin, h⟩ := gd_some h
                          refine alR_19 C hW.1 hin d_MD_planned_172 ?_
                          obtain ⟨r297, g_r297, h⟩ := ob_some h
                          refine cl_MD_139 (rest := []) C (hml.trans hl.1.symm) hW.1 g_r297 ⟨Nat.le_of_ble_eq_true rfl, Nat.le_of_ble_eq_true rfl⟩ (Nat.le_of_ble_eq_true rfl) d_MD_planned_173 ⟨Nat.zero_le _, Nat.zero_le _⟩ ?_
                          refine lv_if_eq (tgt := 183) hx hb d_MD_planned_176 (by decide) (fun c298 => ?_) (fun c298 => ?_)
                          · rw [if_pos c298] at h
                            refine lv_iconst (v := 0) hx hb d_MD_planned_183 (by decide) ?_
                            refine lv_istore (lv' := [(5, .int 0), (0, .ref (ad 0)), (2, .int x2), (3, .int x3), (4, .int x4), (6, .int x6)]) hx hb d_MD_planned_184 hl (by decide) rfl (fun ls hl => ?_)
                            refine lv_iinc (v := x6 + 1) (lv' := [(6, .int (x6 + 1)), (5, .int 0), (0, .ref (ad 0)), (2, .int x2), (3, .int x3), (4, .int x4)]) hx hb d_MD_planned_186 hl (k := 5) rfl rfl (by decide) rfl (fun ls hl => ?_)
                            refine lv_goto (tgt := 132) hx hb d_MD_planned_189 (by decide) ?_
                            exact ih132 x2 x3 x4 0 (x6 + 1) σ h _ _ hW _ (lv_sub hl [2, 3, 4, 5, 1, 0] rfl)
                          · rw [if_neg c298] at h
                            refine lv_iconst (v := 1) hx hb d_MD_planned_179 (by decide) ?_
                            refine lv_goto (tgt := 184) hx hb d_MD_planned_180 (by decide) ?_
                            refine lv_istore (lv' := [(5, .int 1), (0, .ref (ad 0)), (2, .int x2), (3, .int x3), (4, .int x4), (6, .int x6)]) hx hb d_MD_planned_184 hl (by decide) rfl (fun ls hl => ?_)
                            refine lv_iinc (v := x6 + 1) (lv' := [(6, .int (x6 + 1)), (5, .int 1), (0, .ref (ad 0)), (2, .int x2), (3, .int x3), (4, .int x4)]) hx hb d_MD_planned_186 hl (k := 5) rfl rfl (by decide) rfl (fun ls hl => ?_)
                            refine lv_goto (tgt := 132) hx hb d_MD_planned_189 (by decide) ?_
                            exact ih132 x2 x3 x4 1 (x6 + 1) σ h _ _ hW _ (lv_sub hl [2, 3, 4, 5, 1, 0] rfl)
                exact k132 _ x2 x3 x4 r292 0 σ291 h _ _ hW _ (lv_sub hl [2, 4, 5, 6, 1, 0] rfl)
              · rw [if_pos c286] at h
                refine lv_iconst (v := 0) hx hb d_MD_planned_68 (by decide) ?_
                exact W.iret hx hb hr (fun t ht _ => qr_i h ht hW) hW.2.2.2 d_MD_planned_69
            exact k62 x1 x2 x3 x4 1 0 s0 σ h _ _ hW _ (lv_sub hl [0, 1, 2, 3, 4] rfl)
        · rw [if_neg c164] at h
          refine lv_iload hx hb d_MD_planned_30 (lv_at hl 4 rfl) ?_
          refine lv_iload_n hx hb d_MD_planned_32 rfl (lv_at hl 3 rfl) ?_
          refine lv_icmp_lt (tgt := 47) hx hb d_MD_planned_33 (by decide) (fun c165 => ?_) (fun c165 => ?_)
          · rw [if_pos c165] at h
            refine lv_iconst (v := 0) hx hb d_MD_planned_47 (by decide) ?_
            refine lv_aload_n hx hb d_MD_planned_48 rfl (lv_at hl 0 rfl) ?_
            refine gf_MD_123 C hW.1 d_MD_planned_49 ?_
            refine lv_bipush (v := 30) hx hb d_MD_planned_52 (by decide) ?_
            refine lv_icmp_ge (tgt := 61) hx hb d_MD_planned_54 (by decide) (fun c245 => ?_) (fun c245 => ?_)
            · rw [if_pos c245] at h
              refine lv_iconst (v := 0) hx hb d_MD_planned_61 (by decide) ?_
              have k62 : ∀ (x1 : Int32) (x2 : Int32) (x3 : Int32) (x4 : Int32) (s0 : Int32) (s1 : Int32) (s2 : Int32) (σ : Sg) (h : C_MD_planned_62 x1 x2 x3 x4 s0 s1 s2 σ = some out) (H : Heap) (locs : List Loc) (hW : WR G ad cI cZ s σ H locs) (ls : Array Slot) (hl : lv_has ls 7 [(0, .ref (ad 0)), (1, .int x1), (2, .int x2), (3, .int x3), (4, .int x4)]), W p l e (headSpec wl_MD_planned ({ frames := 4, cells := 0, slots := 0, locals := 97 } : Room)).room s m (([.ref (ad 0), .int a1, .int a2, .int a3, .int a4] : List Value).toArray) below meth c H locs 0 0 (MQ below (QRi G ad cI cZ out) (([.ref (ad 0), .int a1, .int a2, .int a3, .int a4] : List Value).toArray) s 0 0 (AR ad)) (F0 m 62 ls [.int s0, .int s1, .int s2, .ref (ad 0)]) := by
                intro x1 x2 x3 x4 s0 s1 s2 σ h H locs hW ls hl
                unfold C_MD_planned_62 at h
                obtain ⟨r265, g_r265, h⟩ := ob_some h
                refine cl_MD_102 (rest := []) C hD (hml.trans hl.1.symm) hW g_r265 ⟨Nat.le_of_ble_eq_true rfl, Nat.le_of_ble_eq_true rfl⟩ (Nat.le_of_ble_eq_true rfl) d_MD_planned_62 ⟨Nat.zero_le _, Nat.zero_le _⟩ (fun H locs hW => ?_)
                refine lv_if_ne (tgt := 70) hx hb d_MD_planned_65 (by decide) (fun c266 => ?_) (fun c266 => ?_)
                · rw [if_neg c266] at h
                  refine lv_aload_n hx hb d_MD_planned_70 rfl (lv_at hl 0 rfl) ?_
                  refine gf_MD_59 C hW.1 d_MD_planned_71 ?_
                  refine lv_aload_n hx hb d_MD_planned_74 rfl (lv_at hl 0 rfl) ?_
                  refine gf_MD_123 C hW.1 d_MD_planned_75 ?_
                  refine lv_iload_n hx hb d_MD_planned_78 rfl (lv_at hl 1 rfl) ?_
                  obtain ⟨hin, h⟩ := gd_some h
                  refine asR_17 C hD hW hin d_MD_planned_79 (fun H locs hW => ?_)
                  obtain ⟨σ267, e_σ267, h⟩ := lt1_some h
                  rw [← e_σ267] at hW
                  refine lv_aload_n hx hb d_MD_planned_80 rfl (lv_at hl 0 rfl) ?_
                  refine gf_MD_62 C hW.1 d_MD_planned_81 ?_
                  refine lv_aload_n hx hb d_MD_planned_84 rfl (lv_at hl 0 rfl) ?_
                  refine gf_MD_123 C hW.1 d_MD_planned_85 ?_
                  refine lv_iload_n hx hb d_MD_planned_88 rfl (lv_at hl 2 rfl) ?_
                  obtain ⟨hin, h⟩ := gd_some h
                  refine asR_18 C hD hW hin d_MD_planned_89 (fun H locs hW => ?_)
                  obtain ⟨σ268, e_σ268, h⟩ := lt1_some h
                  rw [← e_σ268] at hW
                  refine lv_aload_n hx hb d_MD_planned_90 rfl (lv_at hl 0 rfl) ?_
                  refine gf_MD_65 C hW.1 d_MD_planned_91 ?_
                  refine lv_aload_n hx hb d_MD_planned_94 rfl (lv_at hl 0 rfl) ?_
                  refine gf_MD_123 C hW.1 d_MD_planned_95 ?_
                  refine lv_iload_n hx hb d_MD_planned_98 rfl (lv_at hl 3 rfl) ?_
                  obtain ⟨hin, h⟩ := gd_some h
                  refine asR_19 C hD hW hin d_MD_planned_99 (fun H locs hW => ?_)
                  obtain ⟨σ269, e_σ269, h⟩ := lt1_some h
                  rw [← e_σ269] at hW
                  refine lv_aload_n hx hb d_MD_planned_100 rfl (lv_at hl 0 rfl) ?_
                  refine gf_MD_68 C hW.1 d_MD_planned_101 ?_
                  refine lv_aload_n hx hb d_MD_planned_104 rfl (lv_at hl 0 rfl) ?_
                  refine gf_MD_123 C hW.1 d_MD_planned_105 ?_
                  refine lv_iload hx hb d_MD_planned_108 (lv_at hl 4 rfl) ?_
                  obtain ⟨hin, h⟩ := gd_some h
                  refine asR_20 C hD hW hin d_MD_planned_110 (fun H locs hW => ?_)
                  obtain ⟨σ270, e_σ270, h⟩ := lt1_some h
                  rw [← e_σ270] at hW
                  refine lv_aload_n hx hb d_MD_planned_111 rfl (lv_at hl 0 rfl) ?_
                  refine lv_dup hx hb d_MD_planned_112 rfl ?_
                  refine gf_MD_123 C hW.1 d_MD_planned_113 ?_
                  refine lv_iconst (v := 1) hx hb d_MD_planned_116 (by decide) ?_
                  refine lv_iadd hx hb d_MD_planned_117 ?_
                  refine pf_MD_123 C hD hW d_MD_planned_118 (fun H locs hW => ?_)
                  obtain ⟨σ271, e_σ271, h⟩ := lt1_some h
                  rw [← e_σ271] at hW
                  refine lv_aload_n hx hb d_MD_planned_121 rfl (lv_at hl 0 rfl) ?_
                  refine lv_iload_n hx hb d_MD_planned_122 rfl (lv_at hl 2 rfl) ?_
                  refine lv_iload_n hx hb d_MD_planned_123 rfl (lv_at hl 3 rfl) ?_
                  obtain ⟨r272, g_r272, h⟩ := ob_some h
                  refine cl_MD_139 (rest := []) C (hml.trans hl.1.symm) hW.1 g_r272 ⟨Nat.le_of_ble_eq_true rfl, Nat.le_of_ble_eq_true rfl⟩ (Nat.le_of_ble_eq_true rfl) d_MD_planned_124 ⟨Nat.zero_le _, Nat.zero_le _⟩ ?_
                  refine lv_istore (lv' := [(5, .int r272), (0, .ref (ad 0)), (1, .int x1), (2, .int x2), (3, .int x3), (4, .int x4)]) hx hb d_MD_planned_127 hl (by decide) rfl (fun ls hl => ?_)
                  refine lv_iconst (v := 0) hx hb d_MD_planned_129 (by decide) ?_
                  refine lv_istore (lv' := [(6, .int 0), (5, .int r272), (0, .ref (ad 0)), (1, .int x1), (2, .int x2), (3, .int x3), (4, .int x4)]) hx hb d_MD_planned_130 hl (by decide) rfl (fun ls hl => ?_)
                  have k132 : ∀ (n132 : Nat) (x2 : Int32) (x3 : Int32) (x4 : Int32) (x5 : Int32) (x6 : Int32) (σ : Sg) (h : L_MD_planned_132 n132 x2 x3 x4 x5 x6 σ = some out) (H : Heap) (locs : List Loc) (hW : WR G ad cI cZ s σ H locs) (ls : Array Slot) (hl : lv_has ls 7 [(0, .ref (ad 0)), (2, .int x2), (3, .int x3), (4, .int x4), (5, .int x5), (6, .int x6)]), W p l e (headSpec wl_MD_planned ({ frames := 4, cells := 0, slots := 0, locals := 97 } : Room)).room s m (([.ref (ad 0), .int a1, .int a2, .int a3, .int a4] : List Value).toArray) below meth c H locs 0 0 (MQ below (QRi G ad cI cZ out) (([.ref (ad 0), .int a1, .int a2, .int a3, .int a4] : List Value).toArray) s 0 0 (AR ad)) (F0 m 132 ls []) := by
                    intro n132
                    induction n132 with
                    | zero =>
                      intro x2 x3 x4 x5 x6 σ h
                      exact absurd h (by intro z; cases z)
                    | succ n132 ih132 =>
                      intro x2 x3 x4 x5 x6 σ h H locs hW ls hl
                      replace h : B_MD_planned_132 (L_MD_planned_132 n132) x2 x3 x4 x5 x6 σ = some out := h
                      unfold B_MD_planned_132 at h
                      refine lv_iload hx hb d_MD_planned_132 (lv_at hl 5 rfl) ?_
                      refine lv_aload_n hx hb d_MD_planned_134 rfl (lv_at hl 0 rfl) ?_
                      refine gf_MD_123 C hW.1 d_MD_planned_135 ?_
                      refine lv_iconst (v := 1) hx hb d_MD_planned_138 (by decide) ?_
                      refine lv_isub hx hb d_MD_planned_139 ?_
                      refine lv_icmp_ge (tgt := 192) hx hb d_MD_planned_140 (by decide) (fun c273 => ?_) (fun c273 => ?_)
                      · rw [if_pos c273] at h
                        refine lv_aload_n hx hb d_MD_planned_192 rfl (lv_at hl 0 rfl) ?_
                        refine lv_iload hx hb d_MD_planned_193 (lv_at hl 4 rfl) ?_
                        refine lv_if_eq (tgt := 205) hx hb d_MD_planned_195 (by decide) (fun c279 => ?_) (fun c279 => ?_)
                        · rw [if_pos c279] at h
                          refine lv_aload_n hx hb d_MD_planned_205 rfl (lv_at hl 0 rfl) ?_
                          refine gf_MD_123 C hW.1 d_MD_planned_206 ?_
                          refine lv_iconst (v := 1) hx hb d_MD_planned_209 (by decide) ?_
                          refine lv_isub hx hb d_MD_planned_210 ?_
                          refine pf_MD_123 C hD hW d_MD_planned_211 (fun H locs hW => ?_)
                          obtain ⟨σ282, e_σ282, h⟩ := lt1_some h
                          rw [← e_σ282] at hW
                          refine lv_iload hx hb d_MD_planned_214 (lv_at hl 4 rfl) ?_
                          refine lv_if_eq (tgt := 223) hx hb d_MD_planned_216 (by decide) (fun c283 => ?_) (fun c283 => ?_)
                          · rw [if_pos c283] at h
                            refine lv_iconst (v := 1) hx hb d_MD_planned_223 (by decide) ?_
                            exact W.iret hx hb hr (fun t ht _ => qr_i h ht hW) hW.2.2.2 d_MD_planned_224
                          · rw [if_neg c283] at h
                            refine lv_iconst (v := 0) hx hb d_MD_planned_219 (by decide) ?_
                            refine lv_goto (tgt := 224) hx hb d_MD_planned_220 (by decide) ?_
                            exact W.iret hx hb hr (fun t ht _ => qr_i h ht hW) hW.2.2.2 d_MD_planned_224
                        · rw [if_neg c279] at h
                          refine lv_aload_n hx hb d_MD_planned_198 rfl (lv_at hl 0 rfl) ?_
                          refine gf_MD_123 C hW.1 d_MD_planned_199 ?_
                          refine lv_goto (tgt := 211) hx hb d_MD_planned_202 (by decide) ?_
                          refine pf_MD_123 C hD hW d_MD_planned_211 (fun H locs hW => ?_)
                          obtain ⟨σ280, e_σ280, h⟩ := lt1_some h
                          rw [← e_σ280] at hW
                          refine lv_iload hx hb d_MD_planned_214 (lv_at hl 4 rfl) ?_
                          refine lv_if_eq (tgt := 223) hx hb d_MD_planned_216 (by decide) (fun c281 => ?_) (fun c281 => ?_)
                          · rw [if_pos c281] at h
                            refine lv_iconst (v := 1) hx hb d_MD_planned_223 (by decide) ?_
                            exact W.iret hx hb hr (fun t ht _ => qr_i h ht hW) hW.2.2.2 d_MD_planned_224
                          · rw [if_neg c281] at h
                            refine lv_iconst (v := 0) hx hb d_MD_planned_219 (by decide) ?_
                            refine lv_goto (tgt := 224) hx hb d_MD_planned_220 (by decide) ?_
                            exact W.iret hx hb hr (fun t ht _ => qr_i h ht hW) hW.2.2.2 d_MD_planned_224
                      · rw [if_neg c273] at h
                        refine lv_iload hx hb d_MD_planned_143 (lv_at hl 4 rfl) ?_
                        refine lv_if_eq (tgt := 183) hx hb d_MD_planned_145 (by decide) (fun c274 => ?_) (fun c274 => ?_)
                        · rw [if_pos c274] at h
                          refine lv_iconst (v := 0) hx hb d_MD_planned_183 (by decide) ?_
                          refine lv_istore (lv' := [(5, .int 0), (0, .ref (ad 0)), (2, .int x2), (3, .int x3), (4, .int x4), (6, .int x6)]) hx hb d_MD_planned_184 hl (by decide) rfl (fun ls hl => ?_)
                          refine lv_iinc (v := x6 + 1) (lv' := [(6, .int (x6 + 1)), (5, .int 0), (0, .ref (ad 0)), (2, .int x2), (3, .int x3), (4, .int x4)]) hx hb d_MD_planned_186 hl (k := 5) rfl rfl (by decide) rfl (fun ls hl => ?_)
                          refine lv_goto (tgt := 132) hx hb d_MD_planned_189 (by decide) ?_
                          exact ih132 x2 x3 x4 0 (x6 + 1) σ h _ _ hW _ (lv_sub hl [2, 3, 4, 5, 1, 0] rfl)
                        · rw [if_neg c274] at h
                          refine lv_aload_n hx hb d_MD_planned_148 rfl (lv_at hl 0 rfl) ?_
                          refine gf_MD_65 C hW.1 d_MD_planned_149 ?_
                          refine lv_iload hx hb d_MD_planned_152 (lv_at hl 5 rfl) ?_
                          obtain ⟨hin, h⟩ := gd_some h
                          refine alR_19 C hW.1 hin d_MD_planned_154 ?_
                          refine lv_iload_n hx hb d_MD_planned_155 rfl (lv_at hl 2 rfl) ?_
                          refine lv_iload hx hb d_MD_planned_156 (lv_at hl 3 rfl) ?_
                          obtain ⟨r275, g_r275, h⟩ := ob_some h
                          refine cl_MD_98 (rest := []) C (hml.trans hl.1.symm) hW.1 g_r275 ⟨Nat.le_of_ble_eq_true rfl, Nat.le_of_ble_eq_true rfl⟩ (Nat.le_of_ble_eq_true rfl) d_MD_planned_158 ⟨Nat.zero_le _, Nat.zero_le _⟩ ?_
                          refine lv_if_eq (tgt := 179) hx hb d_MD_planned_161 (by decide) (fun c276 => ?_) (fun c276 => ?_)
                          · rw [if_pos c276] at h
                            refine lv_iconst (v := 1) hx hb d_MD_planned_179 (by decide) ?_
                            refine lv_goto (tgt := 184) hx hb d_MD_planned_180 (by decide) ?_
                            refine lv_istore (lv' := [(5, .int 1), (0, .ref (ad 0)), (2, .int x2), (3, .int x3), (4, .int x4), (6, .int x6)]) hx hb d_MD_planned_184 hl (by decide) rfl (fun ls hl => ?_)
                            refine lv_iinc (v := x6 + 1) (lv' := [(6, .int (x6 + 1)), (5, .int 1), (0, .ref (ad 0)), (2, .int x2), (3, .int x3), (4, .int x4)]) hx hb d_MD_planned_186 hl (k := 5) rfl rfl (by decide) rfl (fun ls hl => ?_)
                            refine lv_goto (tgt := 132) hx hb d_MD_planned_189 (by decide) ?_
                            exact ih132 x2 x3 x4 1 (x6 + 1) σ h _ _ hW _ (lv_sub hl [2, 3, 4, 5, 1, 0] rfl)
                          · rw [if_neg c276] at h
                            refine lv_aload_n hx hb d_MD_planned_164 rfl (lv_at hl 0 rfl) ?_
                            refine lv_iload_n hx hb d_MD_planned_165 rfl (lv_at hl 1 rfl) ?_
                            refine lv_aload_n hx hb d_MD_planned_166 rfl (lv_at hl 0 rfl) ?_
                            refine gf_MD_65 C hW.1 d_MD_planned_167 ?_
                            refine lv_iload hx hb d_MD_planned_170 (lv_at hl 5 rfl) ?_
                            obtain ⟨hin, h⟩ := gd_some h
                            refine alR_19 C hW.1 hin d_MD_planned_172 ?_
                            obtain ⟨r277, g_r277, h⟩ := ob_some h
                            refine cl_MD_139 (rest := []) C (hml.trans hl.1.symm) hW.1 g_r277 ⟨Nat.le_of_ble_eq_true rfl, Nat.le_of_ble_eq_true rfl⟩ (Nat.le_of_ble_eq_true rfl) d_MD_planned_173 ⟨Nat.zero_le _, Nat.zero_le _⟩ ?_
                            refine lv_if_eq (tgt := 183) hx hb d_MD_planned_176 (by decide) (fun c278 => ?_) (fun c278 => ?_)
                            · rw [if_pos c278] at h
                              refine lv_iconst (v := 0) hx hb d_MD_planned_183 (by decide) ?_
                              refine lv_istore (lv' := [(5, .int 0), (0, .ref (ad 0)), (2, .int x2), (3, .int x3), (4, .int x4), (6, .int x6)]) hx hb d_MD_planned_184 hl (by decide) rfl (fun ls hl => ?_)
                              refine lv_iinc (v := x6 + 1) (lv' := [(6, .int (x6 + 1)), (5, .int 0), (0, .ref (ad 0)), (2, .int x2), (3, .int x3), (4, .int x4)]) hx hb d_MD_planned_186 hl (k := 5) rfl rfl (by decide) rfl (fun ls hl => ?_)
                              refine lv_goto (tgt := 132) hx hb d_MD_planned_189 (by decide) ?_
                              exact ih132 x2 x3 x4 0 (x6 + 1) σ h _ _ hW _ (lv_sub hl [2, 3, 4, 5, 1, 0] rfl)
                            · rw [if_neg c278] at h
                              refine lv_iconst (v := 1) hx hb d_MD_planned_179 (by decide) ?_
                              refine lv_goto (tgt := 184) hx hb d_MD_planned_180 (by decide) ?_
                              refine lv_istore (lv' := [(5, .int 1), (0, .ref (ad 0)), (2, .int x2), (3, .int x3), (4, .int x4), (6, .int x6)]) hx hb d_MD_planned_184 hl (by decide) rfl (fun ls hl => ?_)
                              refine lv_iinc (v := x6 + 1) (lv' := [(6, .int (x6 + 1)), (5, .int 1), (0, .ref (ad 0)), (2, .int x2), (3, .int x3), (4, .int x4)]) hx hb d_MD_planned_186 hl (k := 5) rfl rfl (by decide) rfl (fun ls hl => ?_)
                              refine lv_goto (tgt := 132) hx hb d_MD_planned_189 (by decide) ?_
                              exact ih132 x2 x3 x4 1 (x6 + 1) σ h _ _ hW _ (lv_sub hl [2, 3, 4, 5, 1, 0] rfl)
                  exact k132 _ x2 x3 x4 r272 0 σ271 h _ _ hW _ (lv_sub hl [2, 4, 5, 6, 1, 0] rfl)
                · rw [if_pos c266] at h
                  refine lv_iconst (v := 0) hx hb d_MD_planned_68 (by decide) ?_
                  exact W.iret hx hb hr (fun t ht _ => qr_i h ht hW) hW.2.2.2 d_MD_planned_69
              exact k62 x1 x2 x3 x4 0 0 s0 σ h _ _ hW _ (lv_sub hl [0, 1, 2, 3, 4] rfl)
            · rw [if_neg c245] at h
              refine lv_iconst (v := 1) hx hb d_MD_planned_57 (by decide) ?_
              refine lv_goto (tgt := 62) hx hb d_MD_planned_58 (by decide) ?_
              have k62 : ∀ (x1 : Int32) (x2 : Int32) (x3 : Int32) (x4 : Int32) (s0 : Int32) (s1 : Int32) (s2 : Int32) (σ : Sg) (h : C_MD_planned_62 x1 x2 x3 x4 s0 s1 s2 σ = some out) (H : Heap) (locs : List Loc) (hW : WR G ad cI cZ s σ H locs) (ls : Array Slot) (hl : lv_has ls 7 [(0, .ref (ad 0)), (1, .int x1), (2, .int x2), (3, .int x3), (4, .int x4)]), W p l e (headSpec wl_MD_planned ({ frames := 4, cells := 0, slots := 0, locals := 97 } : Room)).room s m (([.ref (ad 0), .int a1, .int a2, .int a3, .int a4] : List Value).toArray) below meth c H locs 0 0 (MQ below (QRi G ad cI cZ out) (([.ref (ad 0), .int a1, .int a2, .int a3, .int a4] : List Value).toArray) s 0 0 (AR ad)) (F0 m 62 ls [.int s0, .int s1, .int s2, .ref (ad 0)]) := by
                intro x1 x2 x3 x4 s0 s1 s2 σ h H locs hW ls hl
                unfold C_MD_planned_62 at h
                obtain ⟨r246, g_r246, h⟩ := ob_some h
                refine cl_MD_102 (rest := []) C hD (hml.trans hl.1.symm) hW g_r246 ⟨Nat.le_of_ble_eq_true rfl, Nat.le_of_ble_eq_true rfl⟩ (Nat.le_of_ble_eq_true rfl) d_MD_planned_62 ⟨Nat.zero_le _, Nat.zero_le _⟩ (fun H locs hW => ?_)
                refine lv_if_ne (tgt := 70) hx hb d_MD_planned_65 (by decide) (fun c247 => ?_) (fun c247 => ?_)
                · rw [if_neg c247] at h
                  refine lv_aload_n hx hb d_MD_planned_70 rfl (lv_at hl 0 rfl) ?_
                  refine gf_MD_59 C hW.1 d_MD_planned_71 ?_
                  refine lv_aload_n hx hb d_MD_planned_74 rfl (lv_at hl 0 rfl) ?_
                  refine gf_MD_123 C hW.1 d_MD_planned_75 ?_
                  refine lv_iload_n hx hb d_MD_planned_78 rfl (lv_at hl 1 rfl) ?_
                  obtain ⟨hin, h⟩ := gd_some h
                  refine asR_17 C hD hW hin d_MD_planned_79 (fun H locs hW => ?_)
                  obtain ⟨σ248, e_σ248, h⟩ := lt1_some h
                  rw [← e_σ248] at hW
                  refine lv_aload_n hx hb d_MD_planned_80 rfl (lv_at hl 0 rfl) ?_
                  refine gf_MD_62 C hW.1 d_MD_planned_81 ?_
                  refine lv_aload_n hx hb d_MD_planned_84 rfl (lv_at hl 0 rfl) ?_
                  refine gf_MD_123 C hW.1 d_MD_planned_85 ?_
                  refine lv_iload_n hx hb d_MD_planned_88 rfl (lv_at hl 2 rfl) ?_
                  obtain ⟨hin, h⟩ := gd_some h
                  refine asR_18 C hD hW hin d_MD_planned_89 (fun H locs hW => ?_)
                  obtain ⟨σ249, e_σ249, h⟩ := lt1_some h
                  rw [← e_σ249] at hW
                  refine lv_aload_n hx hb d_MD_planned_90 rfl (lv_at hl 0 rfl) ?_
                  refine gf_MD_65 C hW.1 d_MD_planned_91 ?_
                  refine lv_aload_n hx hb d_MD_planned_94 rfl (lv_at hl 0 rfl) ?_
                  refine gf_MD_123 C hW.1 d_MD_planned_95 ?_
                  refine lv_iload_n hx hb d_MD_planned_98 rfl (lv_at hl 3 rfl) ?_
                  obtain ⟨hin, h⟩ := gd_some h
                  refine asR_19 C hD hW hin d_MD_planned_99 (fun H locs hW => ?_)
                  obtain ⟨σ250, e_σ250, h⟩ := lt1_some h
                  rw [← e_σ250] at hW
                  refine lv_aload_n hx hb d_MD_planned_100 rfl (lv_at hl 0 rfl) ?_
                  refine gf_MD_68 C hW.1 d_MD_planned_101 ?_
                  refine lv_aload_n hx hb d_MD_planned_104 rfl (lv_at hl 0 rfl) ?_
                  refine gf_MD_123 C hW.1 d_MD_planned_105 ?_
                  refine lv_iload hx hb d_MD_planned_108 (lv_at hl 4 rfl) ?_
                  obtain ⟨hin, h⟩ := gd_some h
                  refine asR_20 C hD hW hin d_MD_planned_110 (fun H locs hW => ?_)
                  obtain ⟨σ251, e_σ251, h⟩ := lt1_some h
                  rw [← e_σ251] at hW
                  refine lv_aload_n hx hb d_MD_planned_111 rfl (lv_at hl 0 rfl) ?_
                  refine lv_dup hx hb d_MD_planned_112 rfl ?_
                  refine gf_MD_123 C hW.1 d_MD_planned_113 ?_
                  refine lv_iconst (v := 1) hx hb d_MD_planned_116 (by decide) ?_
                  refine lv_iadd hx hb d_MD_planned_117 ?_
                  refine pf_MD_123 C hD hW d_MD_planned_118 (fun H locs hW => ?_)
                  obtain ⟨σ252, e_σ252, h⟩ := lt1_some h
                  rw [← e_σ252] at hW
                  refine lv_aload_n hx hb d_MD_planned_121 rfl (lv_at hl 0 rfl) ?_
                  refine lv_iload_n hx hb d_MD_planned_122 rfl (lv_at hl 2 rfl) ?_
                  refine lv_iload_n hx hb d_MD_planned_123 rfl (lv_at hl 3 rfl) ?_
                  obtain ⟨r253, g_r253, h⟩ := ob_some h
                  refine cl_MD_139 (rest := []) C (hml.trans hl.1.symm) hW.1 g_r253 ⟨Nat.le_of_ble_eq_true rfl, Nat.le_of_ble_eq_true rfl⟩ (Nat.le_of_ble_eq_true rfl) d_MD_planned_124 ⟨Nat.zero_le _, Nat.zero_le _⟩ ?_
                  refine lv_istore (lv' := [(5, .int r253), (0, .ref (ad 0)), (1, .int x1), (2, .int x2), (3, .int x3), (4, .int x4)]) hx hb d_MD_planned_127 hl (by decide) rfl (fun ls hl => ?_)
                  refine lv_iconst (v := 0) hx hb d_MD_planned_129 (by decide) ?_
                  refine lv_istore (lv' := [(6, .int 0), (5, .int r253), (0, .ref (ad 0)), (1, .int x1), (2, .int x2), (3, .int x3), (4, .int x4)]) hx hb d_MD_planned_130 hl (by decide) rfl (fun ls hl => ?_)
                  have k132 : ∀ (n132 : Nat) (x2 : Int32) (x3 : Int32) (x4 : Int32) (x5 : Int32) (x6 : Int32) (σ : Sg) (h : L_MD_planned_132 n132 x2 x3 x4 x5 x6 σ = some out) (H : Heap) (locs : List Loc) (hW : WR G ad cI cZ s σ H locs) (ls : Array Slot) (hl : lv_has ls 7 [(0, .ref (ad 0)), (2, .int x2), (3, .int x3), (4, .int x4), (5, .int x5), (6, .int x6)]), W p l e (headSpec wl_MD_planned ({ frames := 4, cells := 0, slots := 0, locals := 97 } : Room)).room s m (([.ref (ad 0), .int a1, .int a2, .int a3, .int a4] : List Value).toArray) below meth c H locs 0 0 (MQ below (QRi G ad cI cZ out) (([.ref (ad 0), .int a1, .int a2, .int a3, .int a4] : List Value).toArray) s 0 0 (AR ad)) (F0 m 132 ls []) := by
                    intro n132
                    induction n132 with
                    | zero =>
                      intro x2 x3 x4 x5 x6 σ h
                      exact absurd h (by intro z; cases z)
                    | succ n132 ih132 =>
                      intro x2 x3 x4 x5 x6 σ h H locs hW ls hl
                      replace h : B_MD_planned_132 (L_MD_planned_132 n132) x2 x3 x4 x5 x6 σ = some out := h
                      unfold B_MD_planned_132 at h
                      refine lv_iload hx hb d_MD_planned_132 (lv_at hl 5 rfl) ?_
                      refine lv_aload_n hx hb d_MD_planned_134 rfl (lv_at hl 0 rfl) ?_
                      refine gf_MD_123 C hW.1 d_MD_planned_135 ?_
                      refine lv_iconst (v := 1) hx hb d_MD_planned_138 (by decide) ?_
                      refine lv_isub hx hb d_MD_planned_139 ?_
                      refine lv_icmp_ge (tgt := 192) hx hb d_MD_planned_140 (by decide) (fun c254 => ?_) (fun c254 => ?_)
                      · rw [if_pos c254] at h
                        refine lv_aload_n hx hb d_MD_planned_192 rfl (lv_at hl 0 rfl) ?_
                        refine lv_iload hx hb d_MD_planned_193 (lv_at hl 4 rfl) ?_
                        refine lv_if_eq (tgt := 205) hx hb d_MD_planned_195 (by decide) (fun c260 => ?_) (fun c260 => ?_)
                        · rw [if_pos c260] at h
                          refine lv_aload_n hx hb d_MD_planned_205 rfl (lv_at hl 0 rfl) ?_
                          refine gf_MD_123 C hW.1 d_MD_planned_206 ?_
                          refine lv_iconst (v := 1) hx hb d_MD_planned_209 (by decide) ?_
                          refine lv_isub hx hb d_MD_planned_210 ?_
                          refine pf_MD_123 C hD hW d_MD_planned_211 (fun H locs hW => ?_)
                          obtain ⟨σ263, e_σ263, h⟩ := lt1_some h
                          rw [← e_σ263] at hW
                          refine lv_iload hx hb d_MD_planned_214 (lv_at hl 4 rfl) ?_
                          refine lv_if_eq (tgt := 223) hx hb d_MD_planned_216 (by decide) (fun c264 => ?_) (fun c264 => ?_)
                          · rw [if_pos c264] at h
                            refine lv_iconst (v := 1) hx hb d_MD_planned_223 (by decide) ?_
                            exact W.iret hx hb hr (fun t ht _ => qr_i h ht hW) hW.2.2.2 d_MD_planned_224
                          · rw [if_neg c264] at h
                            refine lv_iconst (v := 0) hx hb d_MD_planned_219 (by decide) ?_
                            refine lv_goto (tgt := 224) hx hb d_MD_planned_220 (by decide) ?_
                            exact W.iret hx hb hr (fun t ht _ => qr_i h ht hW) hW.2.2.2 d_MD_planned_224
                        · rw [if_neg c260] at h
                          refine lv_aload_n hx hb d_MD_planned_198 rfl (lv_at hl 0 rfl) ?_
                          refine gf_MD_123 C hW.1 d_MD_planned_199 ?_
                          refine lv_goto (tgt := 211) hx hb d_MD_planned_202 (by decide) ?_
                          refine pf_MD_123 C hD hW d_MD_planned_211 (fun H locs hW => ?_)
                          obtain ⟨σ261, e_σ261, h⟩ := lt1_some h
                          rw [← e_σ261] at hW
                          refine lv_iload hx hb d_MD_planned_214 (lv_at hl 4 rfl) ?_
                          refine lv_if_eq (tgt := 223) hx hb d_MD_planned_216 (by decide) (fun c262 => ?_) (fun c262 => ?_)
                          · rw [if_pos c262] at h
                            refine lv_iconst (v := 1) hx hb d_MD_planned_223 (by decide) ?_
                            exact W.iret hx hb hr (fun t ht _ => qr_i h ht hW) hW.2.2.2 d_MD_planned_224
                          · rw [if_neg c262] at h
                            refine lv_iconst (v := 0) hx hb d_MD_planned_219 (by decide) ?_
                            refine lv_goto (tgt := 224) hx hb d_MD_planned_220 (by decide) ?_
                            exact W.iret hx hb hr (fun t ht _ => qr_i h ht hW) hW.2.2.2 d_MD_planned_224
                      · rw [if_neg c254] at h
                        refine lv_iload hx hb d_MD_planned_143 (lv_at hl 4 rfl) ?_
                        refine lv_if_eq (tgt := 183) hx hb d_MD_planned_145 (by decide) (fun c255 => ?_) (fun c255 => ?_)
                        · rw [if_pos c255] at h
                          refine lv_iconst (v := 0) hx hb d_MD_planned_183 (by decide) ?_
                          refine lv_istore (lv' := [(5, .int 0), (0, .ref (ad 0)), (2, .int x2), (3, .int x3), (4, .int x4), (6, .int x6)]) hx hb d_MD_planned_184 hl (by decide) rfl (fun ls hl => ?_)
                          refine lv_iinc (v := x6 + 1) (lv' := [(6, .int (x6 + 1)), (5, .int 0), (0, .ref (ad 0)), (2, .int x2), (3, .int x3), (4, .int x4)]) hx hb d_MD_planned_186 hl (k := 5) rfl rfl (by decide) rfl (fun ls hl => ?_)
                          refine lv_goto (tgt := 132) hx hb d_MD_planned_189 (by decide) ?_
                          exact ih132 x2 x3 x4 0 (x6 + 1) σ h _ _ hW _ (lv_sub hl [2, 3, 4, 5, 1, 0] rfl)
                        · rw [if_neg c255] at h
                          refine lv_aload_n hx hb d_MD_planned_148 rfl (lv_at hl 0 rfl) ?_
                          refine gf_MD_65 C hW.1 d_MD_planned_149 ?_
                          refine lv_iload hx hb d_MD_planned_152 (lv_at hl 5 rfl) ?_
                          obtain ⟨hin, h⟩ := gd_some h
                          refine alR_19 C hW.1 hin d_MD_planned_154 ?_
                          refine lv_iload_n hx hb d_MD_planned_155 rfl (lv_at hl 2 rfl) ?_
                          refine lv_iload hx hb d_MD_planned_156 (lv_at hl 3 rfl) ?_
                          obtain ⟨r256, g_r256, h⟩ := ob_some h
                          refine cl_MD_98 (rest := []) C (hml.trans hl.1.symm) hW.1 g_r256 ⟨Nat.le_of_ble_eq_true rfl, Nat.le_of_ble_eq_true rfl⟩ (Nat.le_of_ble_eq_true rfl) d_MD_planned_158 ⟨Nat.zero_le _, Nat.zero_le _⟩ ?_
                          refine lv_if_eq (tgt := 179) hx hb d_MD_planned_161 (by decide) (fun c257 => ?_) (fun c257 => ?_)
                          · rw [if_pos c257] at h
                            refine lv_iconst (v := 1) hx hb d_MD_planned_179 (by decide) ?_
                            refine lv_goto (tgt := 184) hx hb d_MD_planned_180 (by decide) ?_
                            refine lv_istore (lv' := [(5, .int 1), (0, .ref (ad 0)), (2, .int x2), (3, .int x3), (4, .int x4), (6, .int x6)]) hx hb d_MD_planned_184 hl (by decide) rfl (fun ls hl => ?_)
                            refine lv_iinc (v := x6 + 1) (lv' := [(6, .int (x6 + 1)), (5, .int 1), (0, .ref (ad 0)), (2, .int x2), (3, .int x3), (4, .int x4)]) hx hb d_MD_planned_186 hl (k := 5) rfl rfl (by decide) rfl (fun ls hl => ?_)
                            refine lv_goto (tgt := 132) hx hb d_MD_planned_189 (by decide) ?_
                            exact ih132 x2 x3 x4 1 (x6 + 1) σ h _ _ hW _ (lv_sub hl [2, 3, 4, 5, 1, 0] rfl)
                          · rw [if_neg c257] at h
                            refine lv_aload_n hx hb d_MD_planned_164 rfl (lv_at hl 0 rfl) ?_
                            refine lv_iload_n hx hb d_MD_planned_165 rfl (lv_at hl 1 rfl) ?_
                            refine lv_aload_n hx hb d_MD_planned_166 rfl (lv_at hl 0 rfl) ?_
                            refine gf_MD_65 C hW.1 d_MD_planned_167 ?_
                            refine lv_iload hx hb d_MD_planned_170 (lv_at hl 5 rfl) ?_
                            obtain ⟨hin, h⟩ := gd_some h
                            refine alR_19 C hW.1 hin d_MD_planned_172 ?_
                            obtain ⟨r258, g_r258, h⟩ := ob_some h
                            refine cl_MD_139 (rest := []) C (hml.trans hl.1.symm) hW.1 g_r258 ⟨Nat.le_of_ble_eq_true rfl, Nat.le_of_ble_eq_true rfl⟩ (Nat.le_of_ble_eq_true rfl) d_MD_planned_173 ⟨Nat.zero_le _, Nat.zero_le _⟩ ?_
                            refine lv_if_eq (tgt := 183) hx hb d_MD_planned_176 (by decide) (fun c259 => ?_) (fun c259 => ?_)
                            · rw [if_pos c259] at h
                              refine lv_iconst (v := 0) hx hb d_MD_planned_183 (by decide) ?_
                              refine lv_istore (lv' := [(5, .int 0), (0, .ref (ad 0)), (2, .int x2), (3, .int x3), (4, .int x4), (6, .int x6)]) hx hb d_MD_planned_184 hl (by decide) rfl (fun ls hl => ?_)
                              refine lv_iinc (v := x6 + 1) (lv' := [(6, .int (x6 + 1)), (5, .int 0), (0, .ref (ad 0)), (2, .int x2), (3, .int x3), (4, .int x4)]) hx hb d_MD_planned_186 hl (k := 5) rfl rfl (by decide) rfl (fun ls hl => ?_)
                              refine lv_goto (tgt := 132) hx hb d_MD_planned_189 (by decide) ?_
                              exact ih132 x2 x3 x4 0 (x6 + 1) σ h _ _ hW _ (lv_sub hl [2, 3, 4, 5, 1, 0] rfl)
                            · rw [if_neg c259] at h
                              refine lv_iconst (v := 1) hx hb d_MD_planned_179 (by decide) ?_
                              refine lv_goto (tgt := 184) hx hb d_MD_planned_180 (by decide) ?_
                              refine lv_istore (lv' := [(5, .int 1), (0, .ref (ad 0)), (2, .int x2), (3, .int x3), (4, .int x4), (6, .int x6)]) hx hb d_MD_planned_184 hl (by decide) rfl (fun ls hl => ?_)
                              refine lv_iinc (v := x6 + 1) (lv' := [(6, .int (x6 + 1)), (5, .int 1), (0, .ref (ad 0)), (2, .int x2), (3, .int x3), (4, .int x4)]) hx hb d_MD_planned_186 hl (k := 5) rfl rfl (by decide) rfl (fun ls hl => ?_)
                              refine lv_goto (tgt := 132) hx hb d_MD_planned_189 (by decide) ?_
                              exact ih132 x2 x3 x4 1 (x6 + 1) σ h _ _ hW _ (lv_sub hl [2, 3, 4, 5, 1, 0] rfl)
                  exact k132 _ x2 x3 x4 r253 0 σ252 h _ _ hW _ (lv_sub hl [2, 4, 5, 6, 1, 0] rfl)
                · rw [if_pos c247] at h
                  refine lv_iconst (v := 0) hx hb d_MD_planned_68 (by decide) ?_
                  exact W.iret hx hb hr (fun t ht _ => qr_i h ht hW) hW.2.2.2 d_MD_planned_69
              exact k62 x1 x2 x3 x4 1 0 s0 σ h _ _ hW _ (lv_sub hl [0, 1, 2, 3, 4] rfl)
          · rw [if_neg c165] at h
            refine lv_iload hx hb d_MD_planned_36 (lv_at hl 4 rfl) ?_
            refine lv_ldc (v := 1000000) hx hb hown (hts _ w_724) d_MD_planned_38 ?_
            refine lv_icmp_gt (tgt := 47) hx hb d_MD_planned_40 (by decide) (fun c166 => ?_) (fun c166 => ?_)
            · rw [if_pos c166] at h
              refine lv_iconst (v := 0) hx hb d_MD_planned_47 (by decide) ?_
              refine lv_aload_n hx hb d_MD_planned_48 rfl (lv_at hl 0 rfl) ?_
              refine gf_MD_123 C hW.1 d_MD_planned_49 ?_
              refine lv_bipush (v := 30) hx hb d_MD_planned_52 (by decide) ?_
              refine lv_icmp_ge (tgt := 61) hx hb d_MD_planned_54 (by decide) (fun c206 => ?_) (fun c206 => ?_)
              · rw [if_pos c206] at h
                refine lv_iconst (v := 0) hx hb d_MD_planned_61 (by decide) ?_
                have k62 : ∀ (x1 : Int32) (x2 : Int32) (x3 : Int32) (x4 : Int32) (s0 : Int32) (s1 : Int32) (s2 : Int32) (σ : Sg) (h : C_MD_planned_62 x1 x2 x3 x4 s0 s1 s2 σ = some out) (H : Heap) (locs : List Loc) (hW : WR G ad cI cZ s σ H locs) (ls : Array Slot) (hl : lv_has ls 7 [(0, .ref (ad 0)), (1, .int x1), (2, .int x2), (3, .int x3), (4, .int x4)]), W p l e (headSpec wl_MD_planned ({ frames := 4, cells := 0, slots := 0, locals := 97 } : Room)).room s m (([.ref (ad 0), .int a1, .int a2, .int a3, .int a4] : List Value).toArray) below meth c H locs 0 0 (MQ below (QRi G ad cI cZ out) (([.ref (ad 0), .int a1, .int a2, .int a3, .int a4] : List Value).toArray) s 0 0 (AR ad)) (F0 m 62 ls [.int s0, .int s1, .int s2, .ref (ad 0)]) := by
                  intro x1 x2 x3 x4 s0 s1 s2 σ h H locs hW ls hl
                  unfold C_MD_planned_62 at h
                  obtain ⟨r226, g_r226, h⟩ := ob_some h
                  refine cl_MD_102 (rest := []) C hD (hml.trans hl.1.symm) hW g_r226 ⟨Nat.le_of_ble_eq_true rfl, Nat.le_of_ble_eq_true rfl⟩ (Nat.le_of_ble_eq_true rfl) d_MD_planned_62 ⟨Nat.zero_le _, Nat.zero_le _⟩ (fun H locs hW => ?_)
                  refine lv_if_ne (tgt := 70) hx hb d_MD_planned_65 (by decide) (fun c227 => ?_) (fun c227 => ?_)
                  · rw [if_neg c227] at h
                    refine lv_aload_n hx hb d_MD_planned_70 rfl (lv_at hl 0 rfl) ?_
                    refine gf_MD_59 C hW.1 d_MD_planned_71 ?_
                    refine lv_aload_n hx hb d_MD_planned_74 rfl (lv_at hl 0 rfl) ?_
                    refine gf_MD_123 C hW.1 d_MD_planned_75 ?_
                    refine lv_iload_n hx hb d_MD_planned_78 rfl (lv_at hl 1 rfl) ?_
                    obtain ⟨hin, h⟩ := gd_some h
                    refine asR_17 C hD hW hin d_MD_planned_79 (fun H locs hW => ?_)
                    obtain ⟨σ228, e_σ228, h⟩ := lt1_some h
                    rw [← e_σ228] at hW
                    refine lv_aload_n hx hb d_MD_planned_80 rfl (lv_at hl 0 rfl) ?_
                    refine gf_MD_62 C hW.1 d_MD_planned_81 ?_
                    refine lv_aload_n hx hb d_MD_planned_84 rfl (lv_at hl 0 rfl) ?_
                    refine gf_MD_123 C hW.1 d_MD_planned_85 ?_
                    refine lv_iload_n hx hb d_MD_planned_88 rfl (lv_at hl 2 rfl) ?_
                    obtain ⟨hin, h⟩ := gd_some h
                    refine asR_18 C hD hW hin d_MD_planned_89 (fun H locs hW => ?_)
                    obtain ⟨σ229, e_σ229, h⟩ := lt1_some h
                    rw [← e_σ229] at hW
                    refine lv_aload_n hx hb d_MD_planned_90 rfl (lv_at hl 0 rfl) ?_
                    refine gf_MD_65 C hW.1 d_MD_planned_91 ?_
                    refine lv_aload_n hx hb d_MD_planned_94 rfl (lv_at hl 0 rfl) ?_
                    refine gf_MD_123 C hW.1 d_MD_planned_95 ?_
                    refine lv_iload_n hx hb d_MD_planned_98 rfl (lv_at hl 3 rfl) ?_
                    obtain ⟨hin, h⟩ := gd_some h
                    refine asR_19 C hD hW hin d_MD_planned_99 (fun H locs hW => ?_)
                    obtain ⟨σ230, e_σ230, h⟩ := lt1_some h
                    rw [← e_σ230] at hW
                    refine lv_aload_n hx hb d_MD_planned_100 rfl (lv_at hl 0 rfl) ?_
                    refine gf_MD_68 C hW.1 d_MD_planned_101 ?_
                    refine lv_aload_n hx hb d_MD_planned_104 rfl (lv_at hl 0 rfl) ?_
                    refine gf_MD_123 C hW.1 d_MD_planned_105 ?_
                    refine lv_iload hx hb d_MD_planned_108 (lv_at hl 4 rfl) ?_
                    obtain ⟨hin, h⟩ := gd_some h
                    refine asR_20 C hD hW hin d_MD_planned_110 (fun H locs hW => ?_)
                    obtain ⟨σ231, e_σ231, h⟩ := lt1_some h
                    rw [← e_σ231] at hW
                    refine lv_aload_n hx hb d_MD_planned_111 rfl (lv_at hl 0 rfl) ?_
                    refine lv_dup hx hb d_MD_planned_112 rfl ?_
                    refine gf_MD_123 C hW.1 d_MD_planned_113 ?_
                    refine lv_iconst (v := 1) hx hb d_MD_planned_116 (by decide) ?_
                    refine lv_iadd hx hb d_MD_planned_117 ?_
                    refine pf_MD_123 C hD hW d_MD_planned_118 (fun H locs hW => ?_)
                    obtain ⟨σ232, e_σ232, h⟩ := lt1_some h
                    rw [← e_σ232] at hW
                    refine lv_aload_n hx hb d_MD_planned_121 rfl (lv_at hl 0 rfl) ?_
                    refine lv_iload_n hx hb d_MD_planned_122 rfl (lv_at hl 2 rfl) ?_
                    refine lv_iload_n hx hb d_MD_planned_123 rfl (lv_at hl 3 rfl) ?_
                    obtain ⟨r233, g_r233, h⟩ := ob_some h
                    refine cl_MD_139 (rest := []) C (hml.trans hl.1.symm) hW.1 g_r233 ⟨Nat.le_of_ble_eq_true rfl, Nat.le_of_ble_eq_true rfl⟩ (Nat.le_of_ble_eq_true rfl) d_MD_planned_124 ⟨Nat.zero_le _, Nat.zero_le _⟩ ?_
                    refine lv_istore (lv' := [(5, .int r233), (0, .ref (ad 0)), (1, .int x1), (2, .int x2), (3, .int x3), (4, .int x4)]) hx hb d_MD_planned_127 hl (by decide) rfl (fun ls hl => ?_)
                    refine lv_iconst (v := 0) hx hb d_MD_planned_129 (by decide) ?_
                    refine lv_istore (lv' := [(6, .int 0), (5, .int r233), (0, .ref (ad 0)), (1, .int x1), (2, .int x2), (3, .int x3), (4, .int x4)]) hx hb d_MD_planned_130 hl (by decide) rfl (fun ls hl => ?_)
                    have k132 : ∀ (n132 : Nat) (x2 : Int32) (x3 : Int32) (x4 : Int32) (x5 : Int32) (x6 : Int32) (σ : Sg) (h : L_MD_planned_132 n132 x2 x3 x4 x5 x6 σ = some out) (H : Heap) (locs : List Loc) (hW : WR G ad cI cZ s σ H locs) (ls : Array Slot) (hl : lv_has ls 7 [(0, .ref (ad 0)), (2, .int x2), (3, .int x3), (4, .int x4), (5, .int x5), (6, .int x6)]), W p l e (headSpec wl_MD_planned ({ frames := 4, cells := 0, slots := 0, locals := 97 } : Room)).room s m (([.ref (ad 0), .int a1, .int a2, .int a3, .int a4] : List Value).toArray) below meth c H locs 0 0 (MQ below (QRi G ad cI cZ out) (([.ref (ad 0), .int a1, .int a2, .int a3, .int a4] : List Value).toArray) s 0 0 (AR ad)) (F0 m 132 ls []) := by
                      intro n132
                      induction n132 with
                      | zero =>
                        intro x2 x3 x4 x5 x6 σ h
                        exact absurd h (by intro z; cases z)
                      | succ n132 ih132 =>
                        intro x2 x3 x4 x5 x6 σ h H locs hW ls hl
                        replace h : B_MD_planned_132 (L_MD_planned_132 n132) x2 x3 x4 x5 x6 σ = some out := h
                        unfold B_MD_planned_132 at h
                        refine lv_iload hx hb d_MD_planned_132 (lv_at hl 5 rfl) ?_
                        refine lv_aload_n hx hb d_MD_planned_134 rfl (lv_at hl 0 rfl) ?_
                        refine gf_MD_123 C hW.1 d_MD_planned_135 ?_
                        refine lv_iconst (v := 1) hx hb d_MD_planned_138 (by decide) ?_
                        refine lv_isub hx hb d_MD_planned_139 ?_
                        refine lv_icmp_ge (tgt := 192) hx hb d_MD_planned_140 (by decide) (fun c234 => ?_) (fun c234 => ?_)
                        · rw [if_pos c234] at h
                          refine lv_aload_n hx hb d_MD_planned_192 rfl (lv_at hl 0 rfl) ?_
                          refine lv_iload hx hb d_MD_planned_193 (lv_at hl 4 rfl) ?_
                          refine lv_if_eq (tgt := 205) hx hb d_MD_planned_195 (by decide) (fun c240 => ?_) (fun c240 => ?_)
                          · rw [if_pos c240] at h
                            refine lv_aload_n hx hb d_MD_planned_205 rfl (lv_at hl 0 rfl) ?_
                            refine gf_MD_123 C hW.1 d_MD_planned_206 ?_
                            refine lv_iconst (v := 1) hx hb d_MD_planned_209 (by decide) ?_
                            refine lv_isub hx hb d_MD_planned_210 ?_
                            refine pf_MD_123 C hD hW d_MD_planned_211 (fun H locs hW => ?_)
                            obtain ⟨σ243, e_σ243, h⟩ := lt1_some h
                            rw [← e_σ243] at hW
                            refine lv_iload hx hb d_MD_planned_214 (lv_at hl 4 rfl) ?_
                            refine lv_if_eq (tgt := 223) hx hb d_MD_planned_216 (by decide) (fun c244 => ?_) (fun c244 => ?_)
                            · rw [if_pos c244] at h
                              refine lv_iconst (v := 1) hx hb d_MD_planned_223 (by decide) ?_
                              exact W.iret hx hb hr (fun t ht _ => qr_i h ht hW) hW.2.2.2 d_MD_planned_224
                            · rw [if_neg c244] at h
                              refine lv_iconst (v := 0) hx hb d_MD_planned_219 (by decide) ?_
                              refine lv_goto (tgt := 224) hx hb d_MD_planned_220 (by decide) ?_
                              exact W.iret hx hb hr (fun t ht _ => qr_i h ht hW) hW.2.2.2 d_MD_planned_224
                          · rw [if_neg c240] at h
                            refine lv_aload_n hx hb d_MD_planned_198 rfl (lv_at hl 0 rfl) ?_
                            refine gf_MD_123 C hW.1 d_MD_planned_199 ?_
                            refine lv_goto (tgt := 211) hx hb d_MD_planned_202 (by decide) ?_
                            refine pf_MD_123 C hD hW d_MD_planned_211 (fun H locs hW => ?_)
                            obtain ⟨σ241, e_σ241, h⟩ := lt1_some h
                            rw [← e_σ241] at hW
                            refine lv_iload hx hb d_MD_planned_214 (lv_at hl 4 rfl) ?_
                            refine lv_if_eq (tgt := 223) hx hb d_MD_planned_216 (by decide) (fun c242 => ?_) (fun c242 => ?_)
                            · rw [if_pos c242] at h
                              refine lv_iconst (v := 1) hx hb d_MD_planned_223 (by decide) ?_
                              exact W.iret hx hb hr (fun t ht _ => qr_i h ht hW) hW.2.2.2 d_MD_planned_224
                            · rw [if_neg c242] at h
                              refine lv_iconst (v := 0) hx hb d_MD_planned_219 (by decide) ?_
                              refine lv_goto (tgt := 224) hx hb d_MD_planned_220 (by decide) ?_
                              exact W.iret hx hb hr (fun t ht _ => qr_i h ht hW) hW.2.2.2 d_MD_planned_224
                        · rw [if_neg c234] at h
                          refine lv_iload hx hb d_MD_planned_143 (lv_at hl 4 rfl) ?_
                          refine lv_if_eq (tgt := 183) hx hb d_MD_planned_145 (by decide) (fun c235 => ?_) (fun c235 => ?_)
                          · rw [if_pos c235] at h
                            refine lv_iconst (v := 0) hx hb d_MD_planned_183 (by decide) ?_
                            refine lv_istore (lv' := [(5, .int 0), (0, .ref (ad 0)), (2, .int x2), (3, .int x3), (4, .int x4), (6, .int x6)]) hx hb d_MD_planned_184 hl (by decide) rfl (fun ls hl => ?_)
                            refine lv_iinc (v := x6 + 1) (lv' := [(6, .int (x6 + 1)), (5, .int 0), (0, .ref (ad 0)), (2, .int x2), (3, .int x3), (4, .int x4)]) hx hb d_MD_planned_186 hl (k := 5) rfl rfl (by decide) rfl (fun ls hl => ?_)
                            refine lv_goto (tgt := 132) hx hb d_MD_planned_189 (by decide) ?_
                            exact ih132 x2 x3 x4 0 (x6 + 1) σ h _ _ hW _ (lv_sub hl [2, 3, 4, 5, 1, 0] rfl)
                          · rw [if_neg c235] at h
                            refine lv_aload_n hx hb d_MD_planned_148 rfl (lv_at hl 0 rfl) ?_
                            refine gf_MD_65 C hW.1 d_MD_planned_149 ?_
                            refine lv_iload hx hb d_MD_planned_152 (lv_at hl 5 rfl) ?_
                            obtain ⟨hin, h⟩ := gd_some h
                            refine alR_19 C hW.1 hin d_MD_planned_154 ?_
                            refine lv_iload_n hx hb d_MD_planned_155 rfl (lv_at hl 2 rfl) ?_
                            refine lv_iload hx hb d_MD_planned_156 (lv_at hl 3 rfl) ?_
                            obtain ⟨r236, g_r236, h⟩ := ob_some h
                            refine cl_MD_98 (rest := []) C (hml.trans hl.1.symm) hW.1 g_r236 ⟨Nat.le_of_ble_eq_true rfl, Nat.le_of_ble_eq_true rfl⟩ (Nat.le_of_ble_eq_true rfl) d_MD_planned_158 ⟨Nat.zero_le _, Nat.zero_le _⟩ ?_
                            refine lv_if_eq (tgt := 179) hx hb d_MD_planned_161 (by decide) (fun c237 => ?_) (fun c237 => ?_)
                            · rw [if_pos c237] at h
                              refine lv_iconst (v := 1) hx hb d_MD_planned_179 (by decide) ?_
                              refine lv_goto (tgt := 184) hx hb d_MD_planned_180 (by decide) ?_
                              refine lv_istore (lv' := [(5, .int 1), (0, .ref (ad 0)), (2, .int x2), (3, .int x3), (4, .int x4), (6, .int x6)]) hx hb d_MD_planned_184 hl (by decide) rfl (fun ls hl => ?_)
                              refine lv_iinc (v := x6 + 1) (lv' := [(6, .int (x6 + 1)), (5, .int 1), (0, .ref (ad 0)), (2, .int x2), (3, .int x3), (4, .int x4)]) hx hb d_MD_planned_186 hl (k := 5) rfl rfl (by decide) rfl (fun ls hl => ?_)
                              refine lv_goto (tgt := 132) hx hb d_MD_planned_189 (by decide) ?_
                              exact ih132 x2 x3 x4 1 (x6 + 1) σ h _ _ hW _ (lv_sub hl [2, 3, 4, 5, 1, 0] rfl)
                            · rw [if_neg c237] at h
                              refine lv_aload_n hx hb d_MD_planned_164 rfl (lv_at hl 0 rfl) ?_
                              refine lv_iload_n hx hb d_MD_planned_165 rfl (lv_at hl 1 rfl) ?_
                              refine lv_aload_n hx hb d_MD_planned_166 rfl (lv_at hl 0 rfl) ?_
                              refine gf_MD_65 C hW.1 d_MD_planned_167 ?_
                              refine lv_iload hx hb d_MD_planned_170 (lv_at hl 5 rfl) ?_
                              obtain ⟨hin, h⟩ := gd_some h
                              refine alR_19 C hW.1 hin d_MD_planned_172 ?_
                              obtain ⟨r238, g_r238, h⟩ := ob_some h
                              refine cl_MD_139 (rest := []) C (hml.trans hl.1.symm) hW.1 g_r238 ⟨Nat.le_of_ble_eq_true rfl, Nat.le_of_ble_eq_true rfl⟩ (Nat.le_of_ble_eq_true rfl) d_MD_planned_173 ⟨Nat.zero_le _, Nat.zero_le _⟩ ?_
                              refine lv_if_eq (tgt := 183) hx hb d_MD_planned_176 (by decide) (fun c239 => ?_) (fun c239 => ?_)
                              · rw [if_pos c239] at h
                                refine lv_iconst (v := 0) hx hb d_MD_planned_183 (by decide) ?_
                                refine lv_istore (lv' := [(5, .int 0), (0, .ref (ad 0)), (2, .int x2), (3, .int x3), (4, .int x4), (6, .int x6)]) hx hb d_MD_planned_184 hl (by decide) rfl (fun ls hl => ?_)
                                refine lv_iinc (v := x6 + 1) (lv' := [(6, .int (x6 + 1)), (5, .int 0), (0, .ref (ad 0)), (2, .int x2), (3, .int x3), (4, .int x4)]) hx hb d_MD_planned_186 hl (k := 5) rfl rfl (by decide) rfl (fun ls hl => ?_)
                                refine lv_goto (tgt := 132) hx hb d_MD_planned_189 (by decide) ?_
                                exact ih132 x2 x3 x4 0 (x6 + 1) σ h _ _ hW _ (lv_sub hl [2, 3, 4, 5, 1, 0] rfl)
                              · rw [if_neg c239] at h
                                refine lv_iconst (v := 1) hx hb d_MD_planned_179 (by decide) ?_
                                refine lv_goto (tgt := 184) hx hb d_MD_planned_180 (by decide) ?_
                                refine lv_istore (lv' := [(5, .int 1), (0, .ref (ad 0)), (2, .int x2), (3, .int x3), (4, .int x4), (6, .int x6)]) hx hb d_MD_planned_184 hl (by decide) rfl (fun ls hl => ?_)
                                refine lv_iinc (v := x6 + 1) (lv' := [(6, .int (x6 + 1)), (5, .int 1), (0, .ref (ad 0)), (2, .int x2), (3, .int x3), (4, .int x4)]) hx hb d_MD_planned_186 hl (k := 5) rfl rfl (by decide) rfl (fun ls hl => ?_)
                                refine lv_goto (tgt := 132) hx hb d_MD_planned_189 (by decide) ?_
                                exact ih132 x2 x3 x4 1 (x6 + 1) σ h _ _ hW _ (lv_sub hl [2, 3, 4, 5, 1, 0] rfl)
                    exact k132 _ x2 x3 x4 r233 0 σ232 h _ _ hW _ (lv_sub hl [2, 4, 5, 6, 1, 0] rfl)
                  · rw [if_pos c227] at h
                    refine lv_iconst (v := 0) hx hb d_MD_planned_68 (by decide) ?_
                    exact W.iret hx hb hr (fun t ht _ => qr_i h ht hW) hW.2.2.2 d_MD_planned_69
                exact k62 x1 x2 x3 x4 0 0 s0 σ h _ _ hW _ (lv_sub hl [0, 1, 2, 3, 4] rfl)
              · rw [if_neg c206] at h
                refine lv_iconst (v := 1) hx hb d_MD_planned_57 (by decide) ?_
                refine lv_goto (tgt := 62) hx hb d_MD_planned_58 (by decide) ?_
                have k62 : ∀ (x1 : Int32) (x2 : Int32) (x3 : Int32) (x4 : Int32) (s0 : Int32) (s1 : Int32) (s2 : Int32) (σ : Sg) (h : C_MD_planned_62 x1 x2 x3 x4 s0 s1 s2 σ = some out) (H : Heap) (locs : List Loc) (hW : WR G ad cI cZ s σ H locs) (ls : Array Slot) (hl : lv_has ls 7 [(0, .ref (ad 0)), (1, .int x1), (2, .int x2), (3, .int x3), (4, .int x4)]), W p l e (headSpec wl_MD_planned ({ frames := 4, cells := 0, slots := 0, locals := 97 } : Room)).room s m (([.ref (ad 0), .int a1, .int a2, .int a3, .int a4] : List Value).toArray) below meth c H locs 0 0 (MQ below (QRi G ad cI cZ out) (([.ref (ad 0), .int a1, .int a2, .int a3, .int a4] : List Value).toArray) s 0 0 (AR ad)) (F0 m 62 ls [.int s0, .int s1, .int s2, .ref (ad 0)]) := by
                  intro x1 x2 x3 x4 s0 s1 s2 σ h H locs hW ls hl
                  unfold C_MD_planned_62 at h
                  obtain ⟨r207, g_r207, h⟩ := ob_some h
                  refine cl_MD_102 (rest := []) C hD (hml.trans hl.1.symm) hW g_r207 ⟨Nat.le_of_ble_eq_true rfl, Nat.le_of_ble_eq_true rfl⟩ (Nat.le_of_ble_eq_true rfl) d_MD_planned_62 ⟨Nat.zero_le _, Nat.zero_le _⟩ (fun H locs hW => ?_)
                  refine lv_if_ne (tgt := 70) hx hb d_MD_planned_65 (by decide) (fun c208 => ?_) (fun c208 => ?_)
                  · rw [if_neg c208] at h
                    refine lv_aload_n hx hb d_MD_planned_70 rfl (lv_at hl 0 rfl) ?_
                    refine gf_MD_59 C hW.1 d_MD_planned_71 ?_
                    refine lv_aload_n hx hb d_MD_planned_74 rfl (lv_at hl 0 rfl) ?_
                    refine gf_MD_123 C hW.1 d_MD_planned_75 ?_
                    refine lv_iload_n hx hb d_MD_planned_78 rfl (lv_at hl 1 rfl) ?_
                    obtain ⟨hin, h⟩ := gd_some h
                    refine asR_17 C hD hW hin d_MD_planned_79 (fun H locs hW => ?_)
                    obtain ⟨σ209, e_σ209, h⟩ := lt1_some h
                    rw [← e_σ209] at hW
                    refine lv_aload_n hx hb d_MD_planned_80 rfl (lv_at hl 0 rfl) ?_
                    refine gf_MD_62 C hW.1 d_MD_planned_81 ?_
                    refine lv_aload_n hx hb d_MD_planned_84 rfl (lv_at hl 0 rfl) ?_
                    refine gf_MD_123 C hW.1 d_MD_planned_85 ?_
                    refine lv_iload_n hx hb d_MD_planned_88 rfl (lv_at hl 2 rfl) ?_
                    obtain ⟨hin, h⟩ := gd_some h
                    refine asR_18 C hD hW hin d_MD_planned_89 (fun H locs hW => ?_)
                    obtain ⟨σ210, e_σ210, h⟩ := lt1_some h
                    rw [← e_σ210] at hW
                    refine lv_aload_n hx hb d_MD_planned_90 rfl (lv_at hl 0 rfl) ?_
                    refine gf_MD_65 C hW.1 d_MD_planned_91 ?_
                    refine lv_aload_n hx hb d_MD_planned_94 rfl (lv_at hl 0 rfl) ?_
                    refine gf_MD_123 C hW.1 d_MD_planned_95 ?_
                    refine lv_iload_n hx hb d_MD_planned_98 rfl (lv_at hl 3 rfl) ?_
                    obtain ⟨hin, h⟩ := gd_some h
                    refine asR_19 C hD hW hin d_MD_planned_99 (fun H locs hW => ?_)
                    obtain ⟨σ211, e_σ211, h⟩ := lt1_some h
                    rw [← e_σ211] at hW
                    refine lv_aload_n hx hb d_MD_planned_100 rfl (lv_at hl 0 rfl) ?_
                    refine gf_MD_68 C hW.1 d_MD_planned_101 ?_
                    refine lv_aload_n hx hb d_MD_planned_104 rfl (lv_at hl 0 rfl) ?_
                    refine gf_MD_123 C hW.1 d_MD_planned_105 ?_
                    refine lv_iload hx hb d_MD_planned_108 (lv_at hl 4 rfl) ?_
                    obtain ⟨hin, h⟩ := gd_some h
                    refine asR_20 C hD hW hin d_MD_planned_110 (fun H locs hW => ?_)
                    obtain ⟨σ212, e_σ212, h⟩ := lt1_some h
                    rw [← e_σ212] at hW
                    refine lv_aload_n hx hb d_MD_planned_111 rfl (lv_at hl 0 rfl) ?_
                    refine lv_dup hx hb d_MD_planned_112 rfl ?_
                    refine gf_MD_123 C hW.1 d_MD_planned_113 ?_
                    refine lv_iconst (v := 1) hx hb d_MD_planned_116 (by decide) ?_
                    refine lv_iadd hx hb d_MD_planned_117 ?_
                    refine pf_MD_123 C hD hW d_MD_planned_118 (fun H locs hW => ?_)
                    obtain ⟨σ213, e_σ213, h⟩ := lt1_some h
                    rw [← e_σ213] at hW
                    refine lv_aload_n hx hb d_MD_planned_121 rfl (lv_at hl 0 rfl) ?_
                    refine lv_iload_n hx hb d_MD_planned_122 rfl (lv_at hl 2 rfl) ?_
                    refine lv_iload_n hx hb d_MD_planned_123 rfl (lv_at hl 3 rfl) ?_
                    obtain ⟨r214, g_r214, h⟩ := ob_some h
                    refine cl_MD_139 (rest := []) C (hml.trans hl.1.symm) hW.1 g_r214 ⟨Nat.le_of_ble_eq_true rfl, Nat.le_of_ble_eq_true rfl⟩ (Nat.le_of_ble_eq_true rfl) d_MD_planned_124 ⟨Nat.zero_le _, Nat.zero_le _⟩ ?_
                    refine lv_istore (lv' := [(5, .int r214), (0, .ref (ad 0)), (1, .int x1), (2, .int x2), (3, .int x3), (4, .int x4)]) hx hb d_MD_planned_127 hl (by decide) rfl (fun ls hl => ?_)
                    refine lv_iconst (v := 0) hx hb d_MD_planned_129 (by decide) ?_
                    refine lv_istore (lv' := [(6, .int 0), (5, .int r214), (0, .ref (ad 0)), (1, .int x1), (2, .int x2), (3, .int x3), (4, .int x4)]) hx hb d_MD_planned_130 hl (by decide) rfl (fun ls hl => ?_)
                    have k132 : ∀ (n132 : Nat) (x2 : Int32) (x3 : Int32) (x4 : Int32) (x5 : Int32) (x6 : Int32) (σ : Sg) (h : L_MD_planned_132 n132 x2 x3 x4 x5 x6 σ = some out) (H : Heap) (locs : List Loc) (hW : WR G ad cI cZ s σ H locs) (ls : Array Slot) (hl : lv_has ls 7 [(0, .ref (ad 0)), (2, .int x2), (3, .int x3), (4, .int x4), (5, .int x5), (6, .int x6)]), W p l e (headSpec wl_MD_planned ({ frames := 4, cells := 0, slots := 0, locals := 97 } : Room)).room s m (([.ref (ad 0), .int a1, .int a2, .int a3, .int a4] : List Value).toArray) below meth c H locs 0 0 (MQ below (QRi G ad cI cZ out) (([.ref (ad 0), .int a1, .int a2, .int a3, .int a4] : List Value).toArray) s 0 0 (AR ad)) (F0 m 132 ls []) := by
                      intro n132
                      induction n132 with
                      | zero =>
                        intro x2 x3 x4 x5 x6 σ h
                        exact absurd h (by intro z; cases z)
                      | succ n132 ih132 =>
                        intro x2 x3 x4 x5 x6 σ h H locs hW ls hl
                        replace h : B_MD_planned_132 (L_MD_planned_132 n132) x2 x3 x4 x5 x6 σ = some out := h
                        unfold B_MD_planned_132 at h
                        refine lv_iload hx hb d_MD_planned_132 (lv_at hl 5 rfl) ?_
                        refine lv_aload_n hx hb d_MD_planned_134 rfl (lv_at hl 0 rfl) ?_
                        refine gf_MD_123 C hW.1 d_MD_planned_135 ?_
                        refine lv_iconst (v := 1) hx hb d_MD_planned_138 (by decide) ?_
                        refine lv_isub hx hb d_MD_planned_139 ?_
                        refine lv_icmp_ge (tgt := 192) hx hb d_MD_planned_140 (by decide) (fun c215 => ?_) (fun c215 => ?_)
                        · rw [if_pos c215] at h
                          refine lv_aload_n hx hb d_MD_planned_192 rfl (lv_at hl 0 rfl) ?_
                          refine lv_iload hx hb d_MD_planned_193 (lv_at hl 4 rfl) ?_
                          refine lv_if_eq (tgt := 205) hx hb d_MD_planned_195 (by decide) (fun c221 => ?_) (fun c221 => ?_)
                          · rw [if_pos c221] at h
                            refine lv_aload_n hx hb d_MD_planned_205 rfl (lv_at hl 0 rfl) ?_
                            refine gf_MD_123 C hW.1 d_MD_planned_206 ?_
                            refine lv_iconst (v := 1) hx hb d_MD_planned_209 (by decide) ?_
                            refine lv_isub hx hb d_MD_planned_210 ?_
                            refine pf_MD_123 C hD hW d_MD_planned_211 (fun H locs hW => ?_)
                            obtain ⟨σ224, e_σ224, h⟩ := lt1_some h
                            rw [← e_σ224] at hW
                            refine lv_iload hx hb d_MD_planned_214 (lv_at hl 4 rfl) ?_
                            refine lv_if_eq (tgt := 223) hx hb d_MD_planned_216 (by decide) (fun c225 => ?_) (fun c225 => ?_)
                            · rw [if_pos c225] at h
                              refine lv_iconst (v := 1) hx hb d_MD_planned_223 (by decide) ?_
                              exact W.iret hx hb hr (fun t ht _ => qr_i h ht hW) hW.2.2.2 d_MD_planned_224
                            · rw [if_neg c225] at h
                              refine lv_iconst (v := 0) hx hb d_MD_planned_219 (by decide) ?_
                              refine lv_goto (tgt := 224) hx hb d_MD_planned_220 (by decide) ?_
                              exact W.iret hx hb hr (fun t ht _ => qr_i h ht hW) hW.2.2.2 d_MD_planned_224
                          · rw [if_neg c221] at h
                            refine lv_aload_n hx hb d_MD_planned_198 rfl (lv_at hl 0 rfl) ?_
                            refine gf_MD_123 C hW.1 d_MD_planned_199 ?_
                            refine lv_goto (tgt := 211) hx hb d_MD_planned_202 (by decide) ?_
                            refine pf_MD_123 C hD hW d_MD_planned_211 (fun H locs hW => ?_)
                            obtain ⟨σ222, e_σ222, h⟩ := lt1_some h
                            rw [← e_σ222] at hW
                            refine lv_iload hx hb d_MD_planned_214 (lv_at hl 4 rfl) ?_
                            refine lv_if_eq (tgt := 223) hx hb d_MD_planned_216 (by decide) (fun c223 => ?_) (fun c223 => ?_)
                            · rw [if_pos c223] at h
                              refine lv_iconst (v := 1) hx hb d_MD_planned_223 (by decide) ?_
                              exact W.iret hx hb hr (fun t ht _ => qr_i h ht hW) hW.2.2.2 d_MD_planned_224
                            · rw [if_neg c223] at h
                              refine lv_iconst (v := 0) hx hb d_MD_planned_219 (by decide) ?_
                              refine lv_goto (tgt := 224) hx hb d_MD_planned_220 (by decide) ?_
                              exact W.iret hx hb hr (fun t ht _ => qr_i h ht hW) hW.2.2.2 d_MD_planned_224
                        · rw [if_neg c215] at h
                          refine lv_iload hx hb d_MD_planned_143 (lv_at hl 4 rfl) ?_
                          refine lv_if_eq (tgt := 183) hx hb d_MD_planned_145 (by decide) (fun c216 => ?_) (fun c216 => ?_)
                          · rw [if_pos c216] at h
                            refine lv_iconst (v := 0) hx hb d_MD_planned_183 (by decide) ?_
                            refine lv_istore (lv' := [(5, .int 0), (0, .ref (ad 0)), (2, .int x2), (3, .int x3), (4, .int x4), (6, .int x6)]) hx hb d_MD_planned_184 hl (by decide) rfl (fun ls hl => ?_)
                            refine lv_iinc (v := x6 + 1) (lv' := [(6, .int (x6 + 1)), (5, .int 0), (0, .ref (ad 0)), (2, .int x2), (3, .int x3), (4, .int x4)]) hx hb d_MD_planned_186 hl (k := 5) rfl rfl (by decide) rfl (fun ls hl => ?_)
                            refine lv_goto (tgt := 132) hx hb d_MD_planned_189 (by decide) ?_
                            exact ih132 x2 x3 x4 0 (x6 + 1) σ h _ _ hW _ (lv_sub hl [2, 3, 4, 5, 1, 0] rfl)
                          · rw [if_neg c216] at h
                            refine lv_aload_n hx hb d_MD_planned_148 rfl (lv_at hl 0 rfl) ?_
                            refine gf_MD_65 C hW.1 d_MD_planned_149 ?_
                            refine lv_iload hx hb d_MD_planned_152 (lv_at hl 5 rfl) ?_
                            obtain ⟨hin, h⟩ := gd_some h
                            refine alR_19 C hW.1 hin d_MD_planned_154 ?_
                            refine lv_iload_n hx hb d_MD_planned_155 rfl (lv_at hl 2 rfl) ?_
                            refine lv_iload hx hb d_MD_planned_156 (lv_at hl 3 rfl) ?_
                            obtain ⟨r217, g_r217, h⟩ := ob_some h
                            refine cl_MD_98 (rest := []) C (hml.trans hl.1.symm) hW.1 g_r217 ⟨Nat.le_of_ble_eq_true rfl, Nat.le_of_ble_eq_true rfl⟩ (Nat.le_of_ble_eq_true rfl) d_MD_planned_158 ⟨Nat.zero_le _, Nat.zero_le _⟩ ?_
                            refine lv_if_eq (tgt := 179) hx hb d_MD_planned_161 (by decide) (fun c218 => ?_) (fun c218 => ?_)
                            · rw [if_pos c218] at h
                              refine lv_iconst (v := 1) hx hb d_MD_planned_179 (by decide) ?_
                              refine lv_goto (tgt := 184) hx hb d_MD_planned_180 (by decide) ?_
                              refine lv_istore (lv' := [(5, .int 1), (0, .ref (ad 0)), (2, .int x2), (3, .int x3), (4, .int x4), (6, .int x6)]) hx hb d_MD_planned_184 hl (by decide) rfl (fun ls hl => ?_)
                              refine lv_iinc (v := x6 + 1) (lv' := [(6, .int (x6 + 1)), (5, .int 1), (0, .ref (ad 0)), (2, .int x2), (3, .int x3), (4, .int x4)]) hx hb d_MD_planned_186 hl (k := 5) rfl rfl (by decide) rfl (fun ls hl => ?_)
                              refine lv_goto (tgt := 132) hx hb d_MD_planned_189 (by decide) ?_
                              exact ih132 x2 x3 x4 1 (x6 + 1) σ h _ _ hW _ (lv_sub hl [2, 3, 4, 5, 1, 0] rfl)
                            · rw [if_neg c218] at h
                              refine lv_aload_n hx hb d_MD_planned_164 rfl (lv_at hl 0 rfl) ?_
                              refine lv_iload_n hx hb d_MD_planned_165 rfl (lv_at hl 1 rfl) ?_
                              refine lv_aload_n hx hb d_MD_planned_166 rfl (lv_at hl 0 rfl) ?_
                              refine gf_MD_65 C hW.1 d_MD_planned_167 ?_
                              refine lv_iload hx hb d_MD_planned_170 (lv_at hl 5 rfl) ?_
                              obtain ⟨hin, h⟩ := gd_some h
                              refine alR_19 C hW.1 hin d_MD_planned_172 ?_
                              obtain ⟨r219, g_r219, h⟩ := ob_some h
                              refine cl_MD_139 (rest := []) C (hml.trans hl.1.symm) hW.1 g_r219 ⟨Nat.le_of_ble_eq_true rfl, Nat.le_of_ble_eq_true rfl⟩ (Nat.le_of_ble_eq_true rfl) d_MD_planned_173 ⟨Nat.zero_le _, Nat.zero_le _⟩ ?_
                              refine lv_if_eq (tgt := 183) hx hb d_MD_planned_176 (by decide) (fun c220 => ?_) (fun c220 => ?_)
                              · rw [if_pos c220] at h
                                refine lv_iconst (v := 0) hx hb d_MD_planned_183 (by decide) ?_
                                refine lv_istore (lv' := [(5, .int 0), (0, .ref (ad 0)), (2, .int x2), (3, .int x3), (4, .int x4), (6, .int x6)]) hx hb d_MD_planned_184 hl (by decide) rfl (fun ls hl => ?_)
                                refine lv_iinc (v := x6 + 1) (lv' := [(6, .int (x6 + 1)), (5, .int 0), (0, .ref (ad 0)), (2, .int x2), (3, .int x3), (4, .int x4)]) hx hb d_MD_planned_186 hl (k := 5) rfl rfl (by decide) rfl (fun ls hl => ?_)
                                refine lv_goto (tgt := 132) hx hb d_MD_planned_189 (by decide) ?_
                                exact ih132 x2 x3 x4 0 (x6 + 1) σ h _ _ hW _ (lv_sub hl [2, 3, 4, 5, 1, 0] rfl)
                              · rw [if_neg c220] at h
                                refine lv_iconst (v := 1) hx hb d_MD_planned_179 (by decide) ?_
                                refine lv_goto (tgt := 184) hx hb d_MD_planned_180 (by decide) ?_
                                refine lv_istore (lv' := [(5, .int 1), (0, .ref (ad 0)), (2, .int x2), (3, .int x3), (4, .int x4), (6, .int x6)]) hx hb d_MD_planned_184 hl (by decide) rfl (fun ls hl => ?_)
                                refine lv_iinc (v := x6 + 1) (lv' := [(6, .int (x6 + 1)), (5, .int 1), (0, .ref (ad 0)), (2, .int x2), (3, .int x3), (4, .int x4)]) hx hb d_MD_planned_186 hl (k := 5) rfl rfl (by decide) rfl (fun ls hl => ?_)
                                refine lv_goto (tgt := 132) hx hb d_MD_planned_189 (by decide) ?_
                                exact ih132 x2 x3 x4 1 (x6 + 1) σ h _ _ hW _ (lv_sub hl [2, 3, 4, 5, 1, 0] rfl)
                    exact k132 _ x2 x3 x4 r214 0 σ213 h _ _ hW _ (lv_sub hl [2, 4, 5, 6, 1, 0] rfl)
                  · rw [if_pos c208] at h
                    refine lv_iconst (v := 0) hx hb d_MD_planned_68 (by decide) ?_
                    exact W.iret hx hb hr (fun t ht _ => qr_i h ht hW) hW.2.2.2 d_MD_planned_69
                exact k62 x1 x2 x3 x4 1 0 s0 σ h _ _ hW _ (lv_sub hl [0, 1, 2, 3, 4] rfl)
            · rw [if_neg c166] at h
              refine lv_iconst (v := 1) hx hb d_MD_planned_43 (by decide) ?_
              refine lv_goto (tgt := 48) hx hb d_MD_planned_44 (by decide) ?_
              refine lv_aload_n hx hb d_MD_planned_48 rfl (lv_at hl 0 rfl) ?_
              refine gf_MD_123 C hW.1 d_MD_planned_49 ?_
              refine lv_bipush (v := 30) hx hb d_MD_planned_52 (by decide) ?_
              refine lv_icmp_ge (tgt := 61) hx hb d_MD_planned_54 (by decide) (fun c167 => ?_) (fun c167 => ?_)
              · rw [if_pos c167] at h
                refine lv_iconst (v := 0) hx hb d_MD_planned_61 (by decide) ?_
                have k62 : ∀ (x1 : Int32) (x2 : Int32) (x3 : Int32) (x4 : Int32) (s0 : Int32) (s1 : Int32) (s2 : Int32) (σ : Sg) (h : C_MD_planned_62 x1 x2 x3 x4 s0 s1 s2 σ = some out) (H : Heap) (locs : List Loc) (hW : WR G ad cI cZ s σ H locs) (ls : Array Slot) (hl : lv_has ls 7 [(0, .ref (ad 0)), (1, .int x1), (2, .int x2), (3, .int x3), (4, .int x4)]), W p l e (headSpec wl_MD_planned ({ frames := 4, cells := 0, slots := 0, locals := 97 } : Room)).room s m (([.ref (ad 0), .int a1, .int a2, .int a3, .int a4] : List Value).toArray) below meth c H locs 0 0 (MQ below (QRi G ad cI cZ out) (([.ref (ad 0), .int a1, .int a2, .int a3, .int a4] : List Value).toArray) s 0 0 (AR ad)) (F0 m 62 ls [.int s0, .int s1, .int s2, .ref (ad 0)]) := by
                  intro x1 x2 x3 x4 s0 s1 s2 σ h H locs hW ls hl
                  unfold C_MD_planned_62 at h
                  obtain ⟨r187, g_r187, h⟩ := ob_some h
                  refine cl_MD_102 (rest := []) C hD (hml.trans hl.1.symm) hW g_r187 ⟨Nat.le_of_ble_eq_true rfl, Nat.le_of_ble_eq_true rfl⟩ (Nat.le_of_ble_eq_true rfl) d_MD_planned_62 ⟨Nat.zero_le _, Nat.zero_le _⟩ (fun H locs hW => ?_)
                  refine lv_if_ne (tgt := 70) hx hb d_MD_planned_65 (by decide) (fun c188 => ?_) (fun c188 => ?_)
                  · rw [if_neg c188] at h
                    refine lv_aload_n hx hb d_MD_planned_70 rfl (lv_at hl 0 rfl) ?_
                    refine gf_MD_59 C hW.1 d_MD_planned_71 ?_
                    refine lv_aload_n hx hb d_MD_planned_74 rfl (lv_at hl 0 rfl) ?_
                    refine gf_MD_123 C hW.1 d_MD_planned_75 ?_
                    refine lv_iload_n hx hb d_MD_planned_78 rfl (lv_at hl 1 rfl) ?_
                    obtain ⟨hin, h⟩ := gd_some h
                    refine asR_17 C hD hW hin d_MD_planned_79 (fun H locs hW => ?_)
                    obtain ⟨σ189, e_σ189, h⟩ := lt1_some h
                    rw [← e_σ189] at hW
                    refine lv_aload_n hx hb d_MD_planned_80 rfl (lv_at hl 0 rfl) ?_
                    refine gf_MD_62 C hW.1 d_MD_planned_81 ?_
                    refine lv_aload_n hx hb d_MD_planned_84 rfl (lv_at hl 0 rfl) ?_
                    refine gf_MD_123 C hW.1 d_MD_planned_85 ?_
                    refine lv_iload_n hx hb d_MD_planned_88 rfl (lv_at hl 2 rfl) ?_
                    obtain ⟨hin, h⟩ := gd_some h
                    refine asR_18 C hD hW hin d_MD_planned_89 (fun H locs hW => ?_)
                    obtain ⟨σ190, e_σ190, h⟩ := lt1_some h
                    rw [← e_σ190] at hW
                    refine lv_aload_n hx hb d_MD_planned_90 rfl (lv_at hl 0 rfl) ?_
                    refine gf_MD_65 C hW.1 d_MD_planned_91 ?_
                    refine lv_aload_n hx hb d_MD_planned_94 rfl (lv_at hl 0 rfl) ?_
                    refine gf_MD_123 C hW.1 d_MD_planned_95 ?_
                    refine lv_iload_n hx hb d_MD_planned_98 rfl (lv_at hl 3 rfl) ?_
                    obtain ⟨hin, h⟩ := gd_some h
                    refine asR_19 C hD hW hin d_MD_planned_99 (fun H locs hW => ?_)
                    obtain ⟨σ191, e_σ191, h⟩ := lt1_some h
                    rw [← e_σ191] at hW
                    refine lv_aload_n hx hb d_MD_planned_100 rfl (lv_at hl 0 rfl) ?_
                    refine gf_MD_68 C hW.1 d_MD_planned_101 ?_
                    refine lv_aload_n hx hb d_MD_planned_104 rfl (lv_at hl 0 rfl) ?_
                    refine gf_MD_123 C hW.1 d_MD_planned_105 ?_
                    refine lv_iload hx hb d_MD_planned_108 (lv_at hl 4 rfl) ?_
                    obtain ⟨hin, h⟩ := gd_some h
                    refine asR_20 C hD hW hin d_MD_planned_110 (fun H locs hW => ?_)
                    obtain ⟨σ192, e_σ192, h⟩ := lt1_some h
                    rw [← e_σ192] at hW
                    refine lv_aload_n hx hb d_MD_planned_111 rfl (lv_at hl 0 rfl) ?_
                    refine lv_dup hx hb d_MD_planned_112 rfl ?_
                    refine gf_MD_123 C hW.1 d_MD_planned_113 ?_
                    refine lv_iconst (v := 1) hx hb d_MD_planned_116 (by decide) ?_
                    refine lv_iadd hx hb d_MD_planned_117 ?_
                    refine pf_MD_123 C hD hW d_MD_planned_118 (fun H locs hW => ?_)
                    obtain ⟨σ193, e_σ193, h⟩ := lt1_some h
                    rw [← e_σ193] at hW
                    refine lv_aload_n hx hb d_MD_planned_121 rfl (lv_at hl 0 rfl) ?_
                    refine lv_iload_n hx hb d_MD_planned_122 rfl (lv_at hl 2 rfl) ?_
                    refine lv_iload_n hx hb d_MD_planned_123 rfl (lv_at hl 3 rfl) ?_
                    obtain ⟨r194, g_r194, h⟩ := ob_some h
                    refine cl_MD_139 (rest := []) C (hml.trans hl.1.symm) hW.1 g_r194 ⟨Nat.le_of_ble_eq_true rfl, Nat.le_of_ble_eq_true rfl⟩ (Nat.le_of_ble_eq_true rfl) d_MD_planned_124 ⟨Nat.zero_le _, Nat.zero_le _⟩ ?_
                    refine lv_istore (lv' := [(5, .int r194), (0, .ref (ad 0)), (1, .int x1), (2, .int x2), (3, .int x3), (4, .int x4)]) hx hb d_MD_planned_127 hl (by decide) rfl (fun ls hl => ?_)
                    refine lv_iconst (v := 0) hx hb d_MD_planned_129 (by decide) ?_
                    refine lv_istore (lv' := [(6, .int 0), (5, .int r194), (0, .ref (ad 0)), (1, .int x1), (2, .int x2), (3, .int x3), (4, .int x4)]) hx hb d_MD_planned_130 hl (by decide) rfl (fun ls hl => ?_)
                    have k132 : ∀ (n132 : Nat) (x2 : Int32) (x3 : Int32) (x4 : Int32) (x5 : Int32) (x6 : Int32) (σ : Sg) (h : L_MD_planned_132 n132 x2 x3 x4 x5 x6 σ = some out) (H : Heap) (locs : List Loc) (hW : WR G ad cI cZ s σ H locs) (ls : Array Slot) (hl : lv_has ls 7 [(0, .ref (ad 0)), (2, .int x2), (3, .int x3), (4, .int x4), (5, .int x5), (6, .int x6)]), W p l e (headSpec wl_MD_planned ({ frames := 4, cells := 0, slots := 0, locals := 97 } : Room)).room s m (([.ref (ad 0), .int a1, .int a2, .int a3, .int a4] : List Value).toArray) below meth c H locs 0 0 (MQ below (QRi G ad cI cZ out) (([.ref (ad 0), .int a1, .int a2, .int a3, .int a4] : List Value).toArray) s 0 0 (AR ad)) (F0 m 132 ls []) := by
                      intro n132
                      induction n132 with
                      | zero =>
                        intro x2 x3 x4 x5 x6 σ h
                        exact absurd h (by intro z; cases z)
                      | succ n132 ih132 =>
                        intro x2 x3 x4 x5 x6 σ h H locs hW ls hl
                        replace h : B_MD_planned_132 (L_MD_planned_132 n132) x2 x3 x4 x5 x6 σ = some out := h
                        unfold B_MD_planned_132 at h
                        refine lv_iload hx hb d_MD_planned_132 (lv_at hl 5 rfl) ?_
                        refine lv_aload_n hx hb d_MD_planned_134 rfl (lv_at hl 0 rfl) ?_
                        refine gf_MD_123 C hW.1 d_MD_planned_135 ?_
                        refine lv_iconst (v := 1) hx hb d_MD_planned_138 (by decide) ?_
                        refine lv_isub hx hb d_MD_planned_139 ?_
                        refine lv_icmp_ge (tgt := 192) hx hb d_MD_planned_140 (by decide) (fun c195 => ?_) (fun c195 => ?_)
                        · rw [if_pos c195] at h
                          refine lv_aload_n hx hb d_MD_planned_192 rfl (lv_at hl 0 rfl) ?_
                          refine lv_iload hx hb d_MD_planned_193 (lv_at hl 4 rfl) ?_
                          refine lv_if_eq (tgt := 205) hx hb d_MD_planned_195 (by decide) (fun c201 => ?_) (fun c201 => ?_)
                          · rw [if_pos c201] at h
                            refine lv_aload_n hx hb d_MD_planned_205 rfl (lv_at hl 0 rfl) ?_
                            refine gf_MD_123 C hW.1 d_MD_planned_206 ?_
                            refine lv_iconst (v := 1) hx hb d_MD_planned_209 (by decide) ?_
                            refine lv_isub hx hb d_MD_planned_210 ?_
                            refine pf_MD_123 C hD hW d_MD_planned_211 (fun H locs hW => ?_)
                            obtain ⟨σ204, e_σ204, h⟩ := lt1_some h
                            rw [← e_σ204] at hW
                            refine lv_iload hx hb d_MD_planned_214 (lv_at hl 4 rfl) ?_
                            refine lv_if_eq (tgt := 223) hx hb d_MD_planned_216 (by decide) (fun c205 => ?_) (fun c205 => ?_)
                            · rw [if_pos c205] at h
                              refine lv_iconst (v := 1) hx hb d_MD_planned_223 (by decide) ?_
                              exact W.iret hx hb hr (fun t ht _ => qr_i h ht hW) hW.2.2.2 d_MD_planned_224
                            · rw [if_neg c205] at h
                              refine lv_iconst (v := 0) hx hb d_MD_planned_219 (by decide) ?_
                              refine lv_goto (tgt := 224) hx hb d_MD_planned_220 (by decide) ?_
                              exact W.iret hx hb hr (fun t ht _ => qr_i h ht hW) hW.2.2.2 d_MD_planned_224
                          · rw [if_neg c201] at h
                            refine lv_aload_n hx hb d_MD_planned_198 rfl (lv_at hl 0 rfl) ?_
                            refine gf_MD_123 C hW.1 d_MD_planned_199 ?_
                            refine lv_goto (tgt := 211) hx hb d_MD_planned_202 (by decide) ?_
                            refine pf_MD_123 C hD hW d_MD_planned_211 (fun H locs hW => ?_)
                            obtain ⟨σ202, e_σ202, h⟩ := lt1_some h
                            rw [← e_σ202] at hW
                            refine lv_iload hx hb d_MD_planned_214 (lv_at hl 4 rfl) ?_
                            refine lv_if_eq (tgt := 223) hx hb d_MD_planned_216 (by decide) (fun c203 => ?_) (fun c203 => ?_)
                            · rw [if_pos c203] at h
                              refine lv_iconst (v := 1) hx hb d_MD_planned_223 (by decide) ?_
                              exact W.iret hx hb hr (fun t ht _ => qr_i h ht hW) hW.2.2.2 d_MD_planned_224
                            · rw [if_neg c203] at h
                              refine lv_iconst (v := 0) hx hb d_MD_planned_219 (by decide) ?_
                              refine lv_goto (tgt := 224) hx hb d_MD_planned_220 (by decide) ?_
                              exact W.iret hx hb hr (fun t ht _ => qr_i h ht hW) hW.2.2.2 d_MD_planned_224
                        · rw [if_neg c195] at h
                          refine lv_iload hx hb d_MD_planned_143 (lv_at hl 4 rfl) ?_
                          refine lv_if_eq (tgt := 183) hx hb d_MD_planned_145 (by decide) (fun c196 => ?_) (fun c196 => ?_)
                          · rw [if_pos c196] at h
                            refine lv_iconst (v := 0) hx hb d_MD_planned_183 (by decide) ?_
                            refine lv_istore (lv' := [(5, .int 0), (0, .ref (ad 0)), (2, .int x2), (3, .int x3), (4, .int x4), (6, .int x6)]) hx hb d_MD_planned_184 hl (by decide) rfl (fun ls hl => ?_)
                            refine lv_iinc (v := x6 + 1) (lv' := [(6, .int (x6 + 1)), (5, .int 0), (0, .ref (ad 0)), (2, .int x2), (3, .int x3), (4, .int x4)]) hx hb d_MD_planned_186 hl (k := 5) rfl rfl (by decide) rfl (fun ls hl => ?_)
                            refine lv_goto (tgt := 132) hx hb d_MD_planned_189 (by decide) ?_
                            exact ih132 x2 x3 x4 0 (x6 + 1) σ h _ _ hW _ (lv_sub hl [2, 3, 4, 5, 1, 0] rfl)
                          · rw [if_neg c196] at h
                            refine lv_aload_n hx hb d_MD_planned_148 rfl (lv_at hl 0 rfl) ?_
                            refine gf_MD_65 C hW.1 d_MD_planned_149 ?_
                            refine lv_iload hx hb d_MD_planned_152 (lv_at hl 5 rfl) ?_
                            obtain ⟨hin, h⟩ := gd_some h
                            refine alR_19 C hW.1 hin d_MD_planned_154 ?_
                            refine lv_iload_n hx hb d_MD_planned_155 rfl (lv_at hl 2 rfl) ?_
                            refine lv_iload hx hb d_MD_planned_156 (lv_at hl 3 rfl) ?_
                            obtain ⟨r197, g_r197, h⟩ := ob_some h
                            refine cl_MD_98 (rest := []) C (hml.trans hl.1.symm) hW.1 g_r197 ⟨Nat.le_of_ble_eq_true rfl, Nat.le_of_ble_eq_true rfl⟩ (Nat.le_of_ble_eq_true rfl) d_MD_planned_158 ⟨Nat.zero_le _, Nat.zero_le _⟩ ?_
                            refine lv_if_eq (tgt := 179) hx hb d_MD_planned_161 (by decide) (fun c198 => ?_) (fun c198 => ?_)
                            · rw [if_pos c198] at h
                              refine lv_iconst (v := 1) hx hb d_MD_planned_179 (by decide) ?_
                              refine lv_goto (tgt := 184) hx hb d_MD_planned_180 (by decide) ?_
                              refine lv_istore (lv' := [(5, .int 1), (0, .ref (ad 0)), (2, .int x2), (3, .int x3), (4, .int x4), (6, .int x6)]) hx hb d_MD_planned_184 hl (by decide) rfl (fun ls hl => ?_)
                              refine lv_iinc (v := x6 + 1) (lv' := [(6, .int (x6 + 1)), (5, .int 1), (0, .ref (ad 0)), (2, .int x2), (3, .int x3), (4, .int x4)]) hx hb d_MD_planned_186 hl (k := 5) rfl rfl (by decide) rfl (fun ls hl => ?_)
                              refine lv_goto (tgt := 132) hx hb d_MD_planned_189 (by decide) ?_
                              exact ih132 x2 x3 x4 1 (x6 + 1) σ h _ _ hW _ (lv_sub hl [2, 3, 4, 5, 1, 0] rfl)
                            · rw [if_neg c198] at h
                              refine lv_aload_n hx hb d_MD_planned_164 rfl (lv_at hl 0 rfl) ?_
                              refine lv_iload_n hx hb d_MD_planned_165 rfl (lv_at hl 1 rfl) ?_
                              refine lv_aload_n hx hb d_MD_planned_166 rfl (lv_at hl 0 rfl) ?_
                              refine gf_MD_65 C hW.1 d_MD_planned_167 ?_
                              refine lv_iload hx hb d_MD_planned_170 (lv_at hl 5 rfl) ?_
                              obtain ⟨hin, h⟩ := gd_some h
                              refine alR_19 C hW.1 hin d_MD_planned_172 ?_
                              obtain ⟨r199, g_r199, h⟩ := ob_some h
                              refine cl_MD_139 (rest := []) C (hml.trans hl.1.symm) hW.1 g_r199 ⟨Nat.le_of_ble_eq_true rfl, Nat.le_of_ble_eq_true rfl⟩ (Nat.le_of_ble_eq_true rfl) d_MD_planned_173 ⟨Nat.zero_le _, Nat.zero_le _⟩ ?_
                              refine lv_if_eq (tgt := 183) hx hb d_MD_planned_176 (by decide) (fun c200 => ?_) (fun c200 => ?_)
                              · rw [if_pos c200] at h
                                refine lv_iconst (v := 0) hx hb d_MD_planned_183 (by decide) ?_
                                refine lv_istore (lv' := [(5, .int 0), (0, .ref (ad 0)), (2, .int x2), (3, .int x3), (4, .int x4), (6, .int x6)]) hx hb d_MD_planned_184 hl (by decide) rfl (fun ls hl => ?_)
                                refine lv_iinc (v := x6 + 1) (lv' := [(6, .int (x6 + 1)), (5, .int 0), (0, .ref (ad 0)), (2, .int x2), (3, .int x3), (4, .int x4)]) hx hb d_MD_planned_186 hl (k := 5) rfl rfl (by decide) rfl (fun ls hl => ?_)
                                refine lv_goto (tgt := 132) hx hb d_MD_planned_189 (by decide) ?_
                                exact ih132 x2 x3 x4 0 (x6 + 1) σ h _ _ hW _ (lv_sub hl [2, 3, 4, 5, 1, 0] rfl)
                              · rw [if_neg c200] at h
                                refine lv_iconst (v := 1) hx hb d_MD_planned_179 (by decide) ?_
                                refine lv_goto (tgt := 184) hx hb d_MD_planned_180 (by decide) ?_
                                refine lv_istore (lv' := [(5, .int 1), (0, .ref (ad 0)), (2, .int x2), (3, .int x3), (4, .int x4), (6, .int x6)]) hx hb d_MD_planned_184 hl (by decide) rfl (fun ls hl => ?_)
                                refine lv_iinc (v := x6 + 1) (lv' := [(6, .int (x6 + 1)), (5, .int 1), (0, .ref (ad 0)), (2, .int x2), (3, .int x3), (4, .int x4)]) hx hb d_MD_planned_186 hl (k := 5) rfl rfl (by decide) rfl (fun ls hl => ?_)
                                refine lv_goto (tgt := 132) hx hb d_MD_planned_189 (by decide) ?_
                                exact ih132 x2 x3 x4 1 (x6 + 1) σ h _ _ hW _ (lv_sub hl [2, 3, 4, 5, 1, 0] rfl)
                    exact k132 _ x2 x3 x4 r194 0 σ193 h _ _ hW _ (lv_sub hl [2, 4, 5, 6, 1, 0] rfl)
                  · rw [if_pos c188] at h
                    refine lv_iconst (v := 0) hx hb d_MD_planned_68 (by decide) ?_
                    exact W.iret hx hb hr (fun t ht _ => qr_i h ht hW) hW.2.2.2 d_MD_planned_69
                exact k62 x1 x2 x3 x4 0 1 s0 σ h _ _ hW _ (lv_sub hl [0, 1, 2, 3, 4] rfl)
              · rw [if_neg c167] at h
                refine lv_iconst (v := 1) hx hb d_MD_planned_57 (by decide) ?_
                refine lv_goto (tgt := 62) hx hb d_MD_planned_58 (by decide) ?_
                have k62 : ∀ (x1 : Int32) (x2 : Int32) (x3 : Int32) (x4 : Int32) (s0 : Int32) (s1 : Int32) (s2 : Int32) (σ : Sg) (h : C_MD_planned_62 x1 x2 x3 x4 s0 s1 s2 σ = some out) (H : Heap) (locs : List Loc) (hW : WR G ad cI cZ s σ H locs) (ls : Array Slot) (hl : lv_has ls 7 [(0, .ref (ad 0)), (1, .int x1), (2, .int x2), (3, .int x3), (4, .int x4)]), W p l e (headSpec wl_MD_planned ({ frames := 4, cells := 0, slots := 0, locals := 97 } : Room)).room s m (([.ref (ad 0), .int a1, .int a2, .int a3, .int a4] : List Value).toArray) below meth c H locs 0 0 (MQ below (QRi G ad cI cZ out) (([.ref (ad 0), .int a1, .int a2, .int a3, .int a4] : List Value).toArray) s 0 0 (AR ad)) (F0 m 62 ls [.int s0, .int s1, .int s2, .ref (ad 0)]) := by
                  intro x1 x2 x3 x4 s0 s1 s2 σ h H locs hW ls hl
                  unfold C_MD_planned_62 at h
                  obtain ⟨r168, g_r168, h⟩ := ob_some h
                  refine cl_MD_102 (rest := []) C hD (hml.trans hl.1.symm) hW g_r168 ⟨Nat.le_of_ble_eq_true rfl, Nat.le_of_ble_eq_true rfl⟩ (Nat.le_of_ble_eq_true rfl) d_MD_planned_62 ⟨Nat.zero_le _, Nat.zero_le _⟩ (fun H locs hW => ?_)
                  refine lv_if_ne (tgt := 70) hx hb d_MD_planned_65 (by decide) (fun c169 => ?_) (fun c169 => ?_)
                  · rw [if_neg c169] at h
                    refine lv_aload_n hx hb d_MD_planned_70 rfl (lv_at hl 0 rfl) ?_
                    refine gf_MD_59 C hW.1 d_MD_planned_71 ?_
                    refine lv_aload_n hx hb d_MD_planned_74 rfl (lv_at hl 0 rfl) ?_
                    refine gf_MD_123 C hW.1 d_MD_planned_75 ?_
                    refine lv_iload_n hx hb d_MD_planned_78 rfl (lv_at hl 1 rfl) ?_
                    obtain ⟨hin, h⟩ := gd_some h
                    refine asR_17 C hD hW hin d_MD_planned_79 (fun H locs hW => ?_)
                    obtain ⟨σ170, e_σ170, h⟩ := lt1_some h
                    rw [← e_σ170] at hW
                    refine lv_aload_n hx hb d_MD_planned_80 rfl (lv_at hl 0 rfl) ?_
                    refine gf_MD_62 C hW.1 d_MD_planned_81 ?_
                    refine lv_aload_n hx hb d_MD_planned_84 rfl (lv_at hl 0 rfl) ?_
                    refine gf_MD_123 C hW.1 d_MD_planned_85 ?_
                    refine lv_iload_n hx hb d_MD_planned_88 rfl (lv_at hl 2 rfl) ?_
                    obtain ⟨hin, h⟩ := gd_some h
                    refine asR_18 C hD hW hin d_MD_planned_89 (fun H locs hW => ?_)
                    obtain ⟨σ171, e_σ171, h⟩ := lt1_some h
                    rw [← e_σ171] at hW
                    refine lv_aload_n hx hb d_MD_planned_90 rfl (lv_at hl 0 rfl) ?_
                    refine gf_MD_65 C hW.1 d_MD_planned_91 ?_
                    refine lv_aload_n hx hb d_MD_planned_94 rfl (lv_at hl 0 rfl) ?_
                    refine gf_MD_123 C hW.1 d_MD_planned_95 ?_
                    refine lv_iload_n hx hb d_MD_planned_98 rfl (lv_at hl 3 rfl) ?_
                    obtain ⟨hin, h⟩ := gd_some h
                    refine asR_19 C hD hW hin d_MD_planned_99 (fun H locs hW => ?_)
                    obtain ⟨σ172, e_σ172, h⟩ := lt1_some h
                    rw [← e_σ172] at hW
                    refine lv_aload_n hx hb d_MD_planned_100 rfl (lv_at hl 0 rfl) ?_
                    refine gf_MD_68 C hW.1 d_MD_planned_101 ?_
                    refine lv_aload_n hx hb d_MD_planned_104 rfl (lv_at hl 0 rfl) ?_
                    refine gf_MD_123 C hW.1 d_MD_planned_105 ?_
                    refine lv_iload hx hb d_MD_planned_108 (lv_at hl 4 rfl) ?_
                    obtain ⟨hin, h⟩ := gd_some h
                    refine asR_20 C hD hW hin d_MD_planned_110 (fun H locs hW => ?_)
                    obtain ⟨σ173, e_σ173, h⟩ := lt1_some h
                    rw [← e_σ173] at hW
                    refine lv_aload_n hx hb d_MD_planned_111 rfl (lv_at hl 0 rfl) ?_
                    refine lv_dup hx hb d_MD_planned_112 rfl ?_
                    refine gf_MD_123 C hW.1 d_MD_planned_113 ?_
                    refine lv_iconst (v := 1) hx hb d_MD_planned_116 (by decide) ?_
                    refine lv_iadd hx hb d_MD_planned_117 ?_
                    refine pf_MD_123 C hD hW d_MD_planned_118 (fun H locs hW => ?_)
                    obtain ⟨σ174, e_σ174, h⟩ := lt1_some h
                    rw [← e_σ174] at hW
                    refine lv_aload_n hx hb d_MD_planned_121 rfl (lv_at hl 0 rfl) ?_
                    refine lv_iload_n hx hb d_MD_planned_122 rfl (lv_at hl 2 rfl) ?_
                    refine lv_iload_n hx hb d_MD_planned_123 rfl (lv_at hl 3 rfl) ?_
                    obtain ⟨r175, g_r175, h⟩ := ob_some h
                    refine cl_MD_139 (rest := []) C (hml.trans hl.1.symm) hW.1 g_r175 ⟨Nat.le_of_ble_eq_true rfl, Nat.le_of_ble_eq_true rfl⟩ (Nat.le_of_ble_eq_true rfl) d_MD_planned_124 ⟨Nat.zero_le _, Nat.zero_le _⟩ ?_
                    refine lv_istore (lv' := [(5, .int r175), (0, .ref (ad 0)), (1, .int x1), (2, .int x2), (3, .int x3), (4, .int x4)]) hx hb d_MD_planned_127 hl (by decide) rfl (fun ls hl => ?_)
                    refine lv_iconst (v := 0) hx hb d_MD_planned_129 (by decide) ?_
                    refine lv_istore (lv' := [(6, .int 0), (5, .int r175), (0, .ref (ad 0)), (1, .int x1), (2, .int x2), (3, .int x3), (4, .int x4)]) hx hb d_MD_planned_130 hl (by decide) rfl (fun ls hl => ?_)
                    have k132 : ∀ (n132 : Nat) (x2 : Int32) (x3 : Int32) (x4 : Int32) (x5 : Int32) (x6 : Int32) (σ : Sg) (h : L_MD_planned_132 n132 x2 x3 x4 x5 x6 σ = some out) (H : Heap) (locs : List Loc) (hW : WR G ad cI cZ s σ H locs) (ls : Array Slot) (hl : lv_has ls 7 [(0, .ref (ad 0)), (2, .int x2), (3, .int x3), (4, .int x4), (5, .int x5), (6, .int x6)]), W p l e (headSpec wl_MD_planned ({ frames := 4, cells := 0, slots := 0, locals := 97 } : Room)).room s m (([.ref (ad 0), .int a1, .int a2, .int a3, .int a4] : List Value).toArray) below meth c H locs 0 0 (MQ below (QRi G ad cI cZ out) (([.ref (ad 0), .int a1, .int a2, .int a3, .int a4] : List Value).toArray) s 0 0 (AR ad)) (F0 m 132 ls []) := by
                      intro n132
                      induction n132 with
                      | zero =>
                        intro x2 x3 x4 x5 x6 σ h
                        exact absurd h (by intro z; cases z)
                      | succ n132 ih132 =>
                        intro x2 x3 x4 x5 x6 σ h H locs hW ls hl
                        replace h : B_MD_planned_132 (L_MD_planned_132 n132) x2 x3 x4 x5 x6 σ = some out := h
                        unfold B_MD_planned_132 at h
                        refine lv_iload hx hb d_MD_planned_132 (lv_at hl 5 rfl) ?_
                        refine lv_aload_n hx hb d_MD_planned_134 rfl (lv_at hl 0 rfl) ?_
                        refine gf_MD_123 C hW.1 d_MD_planned_135 ?_
                        refine lv_iconst (v := 1) hx hb d_MD_planned_138 (by decide) ?_
                        refine lv_isub hx hb d_MD_planned_139 ?_
                        refine lv_icmp_ge (tgt := 192) hx hb d_MD_planned_140 (by decide) (fun c176 => ?_) (fun c176 => ?_)
                        · rw [if_pos c176] at h
                          refine lv_aload_n hx hb d_MD_planned_192 rfl (lv_at hl 0 rfl) ?_
                          refine lv_iload hx hb d_MD_planned_193 (lv_at hl 4 rfl) ?_
                          refine lv_if_eq (tgt := 205) hx hb d_MD_planned_195 (by decide) (fun c182 => ?_) (fun c182 => ?_)
                          · rw [if_pos c182] at h
                            refine lv_aload_n hx hb d_MD_planned_205 rfl (lv_at hl 0 rfl) ?_
                            refine gf_MD_123 C hW.1 d_MD_planned_206 ?_
                            refine lv_iconst (v := 1) hx hb d_MD_planned_209 (by decide) ?_
                            refine lv_isub hx hb d_MD_planned_210 ?_
                            refine pf_MD_123 C hD hW d_MD_planned_211 (fun H locs hW => ?_)
                            obtain ⟨σ185, e_σ185, h⟩ := lt1_some h
                            rw [← e_σ185] at hW
                            refine lv_iload hx hb d_MD_planned_214 (lv_at hl 4 rfl) ?_
                            refine lv_if_eq (tgt := 223) hx hb d_MD_planned_216 (by decide) (fun c186 => ?_) (fun c186 => ?_)
                            · rw [if_pos c186] at h
                              refine lv_iconst (v := 1) hx hb d_MD_planned_223 (by decide) ?_
                              exact W.iret hx hb hr (fun t ht _ => qr_i h ht hW) hW.2.2.2 d_MD_planned_224
                            · rw [if_neg c186] at h
                              refine lv_iconst (v := 0) hx hb d_MD_planned_219 (by decide) ?_
                              refine lv_goto (tgt := 224) hx hb d_MD_planned_220 (by decide) ?_
                              exact W.iret hx hb hr (fun t ht _ => qr_i h ht hW) hW.2.2.2 d_MD_planned_224
                          · rw [if_neg c182] at h
                            refine lv_aload_n hx hb d_MD_planned_198 rfl (lv_at hl 0 rfl) ?_
                            refine gf_MD_123 C hW.1 d_MD_planned_199 ?_
                            refine lv_goto (tgt := 211) hx hb d_MD_planned_202 (by decide) ?_
                            refine pf_MD_123 C hD hW d_MD_planned_211 (fun H locs hW => ?_)
                            obtain ⟨σ183, e_σ183, h⟩ := lt1_some h
                            rw [← e_σ183] at hW
                            refine lv_iload hx hb d_MD_planned_214 (lv_at hl 4 rfl) ?_
                            refine lv_if_eq (tgt := 223) hx hb d_MD_planned_216 (by decide) (fun c184 => ?_) (fun c184 => ?_)
                            · rw [if_pos c184] at h
                              refine lv_iconst (v := 1) hx hb d_MD_planned_223 (by decide) ?_
                              exact W.iret hx hb hr (fun t ht _ => qr_i h ht hW) hW.2.2.2 d_MD_planned_224
                            · rw [if_neg c184] at h
                              refine lv_iconst (v := 0) hx hb d_MD_planned_219 (by decide) ?_
                              refine lv_goto (tgt := 224) hx hb d_MD_planned_220 (by decide) ?_
                              exact W.iret hx hb hr (fun t ht _ => qr_i h ht hW) hW.2.2.2 d_MD_planned_224
                        · rw [if_neg c176] at h
                          refine lv_iload hx hb d_MD_planned_143 (lv_at hl 4 rfl) ?_
                          refine lv_if_eq (tgt := 183) hx hb d_MD_planned_145 (by decide) (fun c177 => ?_) (fun c177 => ?_)
                          · rw [if_pos c177] at h
                            refine lv_iconst (v := 0) hx hb d_MD_planned_183 (by decide) ?_
                            refine lv_istore (lv' := [(5, .int 0), (0, .ref (ad 0)), (2, .int x2), (3, .int x3), (4, .int x4), (6, .int x6)]) hx hb d_MD_planned_184 hl (by decide) rfl (fun ls hl => ?_)
                            refine lv_iinc (v := x6 + 1) (lv' := [(6, .int (x6 + 1)), (5, .int 0), (0, .ref (ad 0)), (2, .int x2), (3, .int x3), (4, .int x4)]) hx hb d_MD_planned_186 hl (k := 5) rfl rfl (by decide) rfl (fun ls hl => ?_)
                            refine lv_goto (tgt := 132) hx hb d_MD_planned_189 (by decide) ?_
                            exact ih132 x2 x3 x4 0 (x6 + 1) σ h _ _ hW _ (lv_sub hl [2, 3, 4, 5, 1, 0] rfl)
                          · rw [if_neg c177] at h
                            refine lv_aload_n hx hb d_MD_planned_148 rfl (lv_at hl 0 rfl) ?_
                            refine gf_MD_65 C hW.1 d_MD_planned_149 ?_
                            refine lv_iload hx hb d_MD_planned_152 (lv_at hl 5 rfl) ?_
                            obtain ⟨hin, h⟩ := gd_some h
                            refine alR_19 C hW.1 hin d_MD_planned_154 ?_
                            refine lv_iload_n hx hb d_MD_planned_155 rfl (lv_at hl 2 rfl) ?_
                            refine lv_iload hx hb d_MD_planned_156 (lv_at hl 3 rfl) ?_
                            obtain ⟨r178, g_r178, h⟩ := ob_some h
                            refine cl_MD_98 (rest := []) C (hml.trans hl.1.symm) hW.1 g_r178 ⟨Nat.le_of_ble_eq_true rfl, Nat.le_of_ble_eq_true rfl⟩ (Nat.le_of_ble_eq_true rfl) d_MD_planned_158 ⟨Nat.zero_le _, Nat.zero_le _⟩ ?_
                            refine lv_if_eq (tgt := 179) hx hb d_MD_planned_161 (by decide) (fun c179 => ?_) (fun c179 => ?_)
                            · rw [if_pos c179] at h
                              refine lv_iconst (v := 1) hx hb d_MD_planned_179 (by decide) ?_
                              refine lv_goto (tgt := 184) hx hb d_MD_planned_180 (by decide) ?_
                              refine lv_istore (lv' := [(5, .int 1), (0, .ref (ad 0)), (2, .int x2), (3, .int x3), (4, .int x4), (6, .int x6)]) hx hb d_MD_planned_184 hl (by decide) rfl (fun ls hl => ?_)
                              refine lv_iinc (v := x6 + 1) (lv' := [(6, .int (x6 + 1)), (5, .int 1), (0, .ref (ad 0)), (2, .int x2), (3, .int x3), (4, .int x4)]) hx hb d_MD_planned_186 hl (k := 5) rfl rfl (by decide) rfl (fun ls hl => ?_)
                              refine lv_goto (tgt := 132) hx hb d_MD_planned_189 (by decide) ?_
                              exact ih132 x2 x3 x4 1 (x6 + 1) σ h _ _ hW _ (lv_sub hl [2, 3, 4, 5, 1, 0] rfl)
                            · rw [if_neg c179] at h
                              refine lv_aload_n hx hb d_MD_planned_164 rfl (lv_at hl 0 rfl) ?_
                              refine lv_iload_n hx hb d_MD_planned_165 rfl (lv_at hl 1 rfl) ?_
                              refine lv_aload_n hx hb d_MD_planned_166 rfl (lv_at hl 0 rfl) ?_
                              refine gf_MD_65 C hW.1 d_MD_planned_167 ?_
                              refine lv_iload hx hb d_MD_planned_170 (lv_at hl 5 rfl) ?_
                              obtain ⟨hin, h⟩ := gd_some h
                              refine alR_19 C hW.1 hin d_MD_planned_172 ?_
                              obtain ⟨r180, g_r180, h⟩ := ob_some h
                              refine cl_MD_139 (rest := []) C (hml.trans hl.1.symm) hW.1 g_r180 ⟨Nat.le_of_ble_eq_true rfl, Nat.le_of_ble_eq_true rfl⟩ (Nat.le_of_ble_eq_true rfl) d_MD_planned_173 ⟨Nat.zero_le _, Nat.zero_le _⟩ ?_
                              refine lv_if_eq (tgt := 183) hx hb d_MD_planned_176 (by decide) (fun c181 => ?_) (fun c181 => ?_)
                              · rw [if_pos c181] at h
                                refine lv_iconst (v := 0) hx hb d_MD_planned_183 (by decide) ?_
                                refine lv_istore (lv' := [(5, .int 0), (0, .ref (ad 0)), (2, .int x2), (3, .int x3), (4, .int x4), (6, .int x6)]) hx hb d_MD_planned_184 hl (by decide) rfl (fun ls hl => ?_)
                                refine lv_iinc (v := x6 + 1) (lv' := [(6, .int (x6 + 1)), (5, .int 0), (0, .ref (ad 0)), (2, .int x2), (3, .int x3), (4, .int x4)]) hx hb d_MD_planned_186 hl (k := 5) rfl rfl (by decide) rfl (fun ls hl => ?_)
                                refine lv_goto (tgt := 132) hx hb d_MD_planned_189 (by decide) ?_
                                exact ih132 x2 x3 x4 0 (x6 + 1) σ h _ _ hW _ (lv_sub hl [2, 3, 4, 5, 1, 0] rfl)
                              · rw [if_neg c181] at h
                                refine lv_iconst (v := 1) hx hb d_MD_planned_179 (by decide) ?_
                                refine lv_goto (tgt := 184) hx hb d_MD_planned_180 (by decide) ?_
                                refine lv_istore (lv' := [(5, .int 1), (0, .ref (ad 0)), (2, .int x2), (3, .int x3), (4, .int x4), (6, .int x6)]) hx hb d_MD_planned_184 hl (by decide) rfl (fun ls hl => ?_)
                                refine lv_iinc (v := x6 + 1) (lv' := [(6, .int (x6 + 1)), (5, .int 1), (0, .ref (ad 0)), (2, .int x2), (3, .int x3), (4, .int x4)]) hx hb d_MD_planned_186 hl (k := 5) rfl rfl (by decide) rfl (fun ls hl => ?_)
                                refine lv_goto (tgt := 132) hx hb d_MD_planned_189 (by decide) ?_
                                exact ih132 x2 x3 x4 1 (x6 + 1) σ h _ _ hW _ (lv_sub hl [2, 3, 4, 5, 1, 0] rfl)
                    exact k132 _ x2 x3 x4 r175 0 σ174 h _ _ hW _ (lv_sub hl [2, 4, 5, 6, 1, 0] rfl)
                  · rw [if_pos c169] at h
                    refine lv_iconst (v := 0) hx hb d_MD_planned_68 (by decide) ?_
                    exact W.iret hx hb hr (fun t ht _ => qr_i h ht hW) hW.2.2.2 d_MD_planned_69
                exact k62 x1 x2 x3 x4 1 1 s0 σ h _ _ hW _ (lv_sub hl [0, 1, 2, 3, 4] rfl)
      exact k22 a1 a2 a3 a4 0 σ h _ _ hW _ (lv_sub hl [0, 1, 2, 3, 4] rfl)
    · rw [if_neg c4] at h
      refine lv_iconst (v := 1) hx hb d_MD_planned_17 (by decide) ?_
      refine lv_goto (tgt := 22) hx hb d_MD_planned_18 (by decide) ?_
      have k22 : ∀ (x1 : Int32) (x2 : Int32) (x3 : Int32) (x4 : Int32) (s0 : Int32) (σ : Sg) (h : C_MD_planned_22 x1 x2 x3 x4 s0 σ = some out) (H : Heap) (locs : List Loc) (hW : WR G ad cI cZ s σ H locs) (ls : Array Slot) (hl : lv_has ls 7 [(0, .ref (ad 0)), (1, .int x1), (2, .int x2), (3, .int x3), (4, .int x4)]), W p l e (headSpec wl_MD_planned ({ frames := 4, cells := 0, slots := 0, locals := 97 } : Room)).room s m (([.ref (ad 0), .int a1, .int a2, .int a3, .int a4] : List Value).toArray) below meth c H locs 0 0 (MQ below (QRi G ad cI cZ out) (([.ref (ad 0), .int a1, .int a2, .int a3, .int a4] : List Value).toArray) s 0 0 (AR ad)) (F0 m 22 ls [.int s0, .ref (ad 0)]) := by
        intro x1 x2 x3 x4 s0 σ h H locs hW ls hl
        unfold C_MD_planned_22 at h
        refine lv_iload_n hx hb d_MD_planned_22 rfl (lv_at hl 3 rfl) ?_
        refine lv_aload_n hx hb d_MD_planned_23 rfl (lv_at hl 0 rfl) ?_
        refine gf_MD_145 C hW.1 d_MD_planned_24 ?_
        refine lv_icmp_lt (tgt := 47) hx hb d_MD_planned_27 (by decide) (fun c5 => ?_) (fun c5 => ?_)
        · rw [if_pos c5] at h
          refine lv_iconst (v := 0) hx hb d_MD_planned_47 (by decide) ?_
          refine lv_aload_n hx hb d_MD_planned_48 rfl (lv_at hl 0 rfl) ?_
          refine gf_MD_123 C hW.1 d_MD_planned_49 ?_
          refine lv_bipush (v := 30) hx hb d_MD_planned_52 (by decide) ?_
          refine lv_icmp_ge (tgt := 61) hx hb d_MD_planned_54 (by decide) (fun c125 => ?_) (fun c125 => ?_)
          · rw [if_pos c125] at h
            refine lv_iconst (v := 0) hx hb d_MD_planned_61 (by decide) ?_
            have k62 : ∀ (x1 : Int32) (x2 : Int32) (x3 : Int32) (x4 : Int32) (s0 : Int32) (s1 : Int32) (s2 : Int32) (σ : Sg) (h : C_MD_planned_62 x1 x2 x3 x4 s0 s1 s2 σ = some out) (H : Heap) (locs : List Loc) (hW : WR G ad cI cZ s σ H locs) (ls : Array Slot) (hl : lv_has ls 7 [(0, .ref (ad 0)), (1, .int x1), (2, .int x2), (3, .int x3), (4, .int x4)]), W p l e (headSpec wl_MD_planned ({ frames := 4, cells := 0, slots := 0, locals := 97 } : Room)).room s m (([.ref (ad 0), .int a1, .int a2, .int a3, .int a4] : List Value).toArray) below meth c H locs 0 0 (MQ below (QRi G ad cI cZ out) (([.ref (ad 0), .int a1, .int a2, .int a3, .int a4] : List Value).toArray) s 0 0 (AR ad)) (F0 m 62 ls [.int s0, .int s1, .int s2, .ref (ad 0)]) := by
              intro x1 x2 x3 x4 s0 s1 s2 σ h H locs hW ls hl
              unfold C_MD_planned_62 at h
              obtain ⟨r145, g_r145, h⟩ := ob_some h
              refine cl_MD_102 (rest := []) C hD (hml.trans hl.1.symm) hW g_r145 ⟨Nat.le_of_ble_eq_true rfl, Nat.le_of_ble_eq_true rfl⟩ (Nat.le_of_ble_eq_true rfl) d_MD_planned_62 ⟨Nat.zero_le _, Nat.zero_le _⟩ (fun H locs hW => ?_)
              refine lv_if_ne (tgt := 70) hx hb d_MD_planned_65 (by decide) (fun c146 => ?_) (fun c146 => ?_)
              · rw [if_neg c146] at h
                refine lv_aload_n hx hb d_MD_planned_70 rfl (lv_at hl 0 rfl) ?_
                refine gf_MD_59 C hW.1 d_MD_planned_71 ?_
                refine lv_aload_n hx hb d_MD_planned_74 rfl (lv_at hl 0 rfl) ?_
                refine gf_MD_123 C hW.1 d_MD_planned_75 ?_
                refine lv_iload_n hx hb d_MD_planned_78 rfl (lv_at hl 1 rfl) ?_
                obtain ⟨hin, h⟩ := gd_some h
                refine asR_17 C hD hW hin d_MD_planned_79 (fun H locs hW => ?_)
                obtain ⟨σ147, e_σ147, h⟩ := lt1_some h
                rw [← e_σ147] at hW
                refine lv_aload_n hx hb d_MD_planned_80 rfl (lv_at hl 0 rfl) ?_
                refine gf_MD_62 C hW.1 d_MD_planned_81 ?_
                refine lv_aload_n hx hb d_MD_planned_84 rfl (lv_at hl 0 rfl) ?_
                refine gf_MD_123 C hW.1 d_MD_planned_85 ?_
                refine lv_iload_n hx hb d_MD_planned_88 rfl (lv_at hl 2 rfl) ?_
                obtain ⟨hin, h⟩ := gd_some h
                refine asR_18 C hD hW hin d_MD_planned_89 (fun H locs hW => ?_)
                obtain ⟨σ148, e_σ148, h⟩ := lt1_some h
                rw [← e_σ148] at hW
                refine lv_aload_n hx hb d_MD_planned_90 rfl (lv_at hl 0 rfl) ?_
                refine gf_MD_65 C hW.1 d_MD_planned_91 ?_
                refine lv_aload_n hx hb d_MD_planned_94 rfl (lv_at hl 0 rfl) ?_
                refine gf_MD_123 C hW.1 d_MD_planned_95 ?_
                refine lv_iload_n hx hb d_MD_planned_98 rfl (lv_at hl 3 rfl) ?_
                obtain ⟨hin, h⟩ := gd_some h
                refine asR_19 C hD hW hin d_MD_planned_99 (fun H locs hW => ?_)
                obtain ⟨σ149, e_σ149, h⟩ := lt1_some h
                rw [← e_σ149] at hW
                refine lv_aload_n hx hb d_MD_planned_100 rfl (lv_at hl 0 rfl) ?_
                refine gf_MD_68 C hW.1 d_MD_planned_101 ?_
                refine lv_aload_n hx hb d_MD_planned_104 rfl (lv_at hl 0 rfl) ?_
                refine gf_MD_123 C hW.1 d_MD_planned_105 ?_
                refine lv_iload hx hb d_MD_planned_108 (lv_at hl 4 rfl) ?_
                obtain ⟨hin, h⟩ := gd_some h
                refine asR_20 C hD hW hin d_MD_planned_110 (fun H locs hW => ?_)
                obtain ⟨σ150, e_σ150, h⟩ := lt1_some h
                rw [← e_σ150] at hW
                refine lv_aload_n hx hb d_MD_planned_111 rfl (lv_at hl 0 rfl) ?_
                refine lv_dup hx hb d_MD_planned_112 rfl ?_
                refine gf_MD_123 C hW.1 d_MD_planned_113 ?_
                refine lv_iconst (v := 1) hx hb d_MD_planned_116 (by decide) ?_
                refine lv_iadd hx hb d_MD_planned_117 ?_
                refine pf_MD_123 C hD hW d_MD_planned_118 (fun H locs hW => ?_)
                obtain ⟨σ151, e_σ151, h⟩ := lt1_some h
                rw [← e_σ151] at hW
                refine lv_aload_n hx hb d_MD_planned_121 rfl (lv_at hl 0 rfl) ?_
                refine lv_iload_n hx hb d_MD_planned_122 rfl (lv_at hl 2 rfl) ?_
                refine lv_iload_n hx hb d_MD_planned_123 rfl (lv_at hl 3 rfl) ?_
                obtain ⟨r152, g_r152, h⟩ := ob_some h
                refine cl_MD_139 (rest := []) C (hml.trans hl.1.symm) hW.1 g_r152 ⟨Nat.le_of_ble_eq_true rfl, Nat.le_of_ble_eq_true rfl⟩ (Nat.le_of_ble_eq_true rfl) d_MD_planned_124 ⟨Nat.zero_le _, Nat.zero_le _⟩ ?_
                refine lv_istore (lv' := [(5, .int r152), (0, .ref (ad 0)), (1, .int x1), (2, .int x2), (3, .int x3), (4, .int x4)]) hx hb d_MD_planned_127 hl (by decide) rfl (fun ls hl => ?_)
                refine lv_iconst (v := 0) hx hb d_MD_planned_129 (by decide) ?_
                refine lv_istore (lv' := [(6, .int 0), (5, .int r152), (0, .ref (ad 0)), (1, .int x1), (2, .int x2), (3, .int x3), (4, .int x4)]) hx hb d_MD_planned_130 hl (by decide) rfl (fun ls hl => ?_)
                have k132 : ∀ (n132 : Nat) (x2 : Int32) (x3 : Int32) (x4 : Int32) (x5 : Int32) (x6 : Int32) (σ : Sg) (h : L_MD_planned_132 n132 x2 x3 x4 x5 x6 σ = some out) (H : Heap) (locs : List Loc) (hW : WR G ad cI cZ s σ H locs) (ls : Array Slot) (hl : lv_has ls 7 [(0, .ref (ad 0)), (2, .int x2), (3, .int x3), (4, .int x4), (5, .int x5), (6, .int x6)]), W p l e (headSpec wl_MD_planned ({ frames := 4, cells := 0, slots := 0, locals := 97 } : Room)).room s m (([.ref (ad 0), .int a1, .int a2, .int a3, .int a4] : List Value).toArray) below meth c H locs 0 0 (MQ below (QRi G ad cI cZ out) (([.ref (ad 0), .int a1, .int a2, .int a3, .int a4] : List Value).toArray) s 0 0 (AR ad)) (F0 m 132 ls []) := by
                  intro n132
                  induction n132 with
                  | zero =>
                    intro x2 x3 x4 x5 x6 σ h
                    exact absurd h (by intro z; cases z)
                  | succ n132 ih132 =>
                    intro x2 x3 x4 x5 x6 σ h H locs hW ls hl
                    replace h : B_MD_planned_132 (L_MD_planned_132 n132) x2 x3 x4 x5 x6 σ = some out := h
                    unfold B_MD_planned_132 at h
                    refine lv_iload hx hb d_MD_planned_132 (lv_at hl 5 rfl) ?_
                    refine lv_aload_n hx hb d_MD_planned_134 rfl (lv_at hl 0 rfl) ?_
                    refine gf_MD_123 C hW.1 d_MD_planned_135 ?_
                    refine lv_iconst (v := 1) hx hb d_MD_planned_138 (by decide) ?_
                    refine lv_isub hx hb d_MD_planned_139 ?_
                    refine lv_icmp_ge (tgt := 192) hx hb d_MD_planned_140 (by decide) (fun c153 => ?_) (fun c153 => ?_)
                    · rw [if_pos c153] at h
                      refine lv_aload_n hx hb d_MD_planned_192 rfl (lv_at hl 0 rfl) ?_
                      refine lv_iload hx hb d_MD_planned_193 (lv_at hl 4 rfl) ?_
                      refine lv_if_eq (tgt := 205) hx hb d_MD_planned_195 (by decide) (fun c159 => ?_) (fun c159 => ?_)
                      · rw [if_pos c159] at h
                        refine lv_aload_n hx hb d_MD_planned_205 rfl (lv_at hl 0 rfl) ?_
                        refine gf_MD_123 C hW.1 d_MD_planned_206 ?_
                        refine lv_iconst (v := 1) hx hb d_MD_planned_209 (by decide) ?_
                        refine lv_isub hx hb d_MD_planned_210 ?_
                        refine pf_MD_123 C hD hW d_MD_planned_211 (fun H locs hW => ?_)
                        obtain ⟨σ162, e_σ162, h⟩ := lt1_some h
                        rw [← e_σ162] at hW
                        refine lv_iload hx hb d_MD_planned_214 (lv_at hl 4 rfl) ?_
                        refine lv_if_eq (tgt := 223) hx hb d_MD_planned_216 (by decide) (fun c163 => ?_) (fun c163 => ?_)
                        · rw [if_pos c163] at h
                          refine lv_iconst (v := 1) hx hb d_MD_planned_223 (by decide) ?_
                          exact W.iret hx hb hr (fun t ht _ => qr_i h ht hW) hW.2.2.2 d_MD_planned_224
                        · rw [if_neg c163] at h
                          refine lv_iconst (v := 0) hx hb d_MD_planned_219 (by decide) ?_
                          refine lv_goto (tgt := 224) hx hb d_MD_planned_220 (by decide) ?_
                          exact W.iret hx hb hr (fun t ht _ => qr_i h ht hW) hW.2.2.2 d_MD_planned_224
                      · rw [if_neg c159] at h
                        refine lv_aload_n hx hb d_MD_planned_198 rfl (lv_at hl 0 rfl) ?_
                        refine gf_MD_123 C hW.1 d_MD_planned_199 ?_
                        refine lv_goto (tgt := 211) hx hb d_MD_planned_202 (by decide) ?_
                        refine pf_MD_123 C hD hW d_MD_planned_211 (fun H locs hW => ?_)
                        obtain ⟨σ160, e_σ160, h⟩ := lt1_some h
                        rw [← e_σ160] at hW
                        refine lv_iload hx hb d_MD_planned_214 (lv_at hl 4 rfl) ?_
                        refine lv_if_eq (tgt := 223) hx hb d_MD_planned_216 (by decide) (fun c161 => ?_) (fun c161 => ?_)
                        · rw [if_pos c161] at h
                          refine lv_iconst (v := 1) hx hb d_MD_planned_223 (by decide) ?_
                          exact W.iret hx hb hr (fun t ht _ => qr_i h ht hW) hW.2.2.2 d_MD_planned_224
                        · rw [if_neg c161] at h
                          refine lv_iconst (v := 0) hx hb d_MD_planned_219 (by decide) ?_
                          refine lv_goto (tgt := 224) hx hb d_MD_planned_220 (by decide) ?_
                          exact W.iret hx hb hr (fun t ht _ => qr_i h ht hW) hW.2.2.2 d_MD_planned_224
                    · rw [if_neg c153] at h
                      refine lv_iload hx hb d_MD_planned_143 (lv_at hl 4 rfl) ?_
                      refine lv_if_eq (tgt := 183) hx hb d_MD_planned_145 (by decide) (fun c154 => ?_) (fun c154 => ?_)
                      · rw [if_pos c154] at h
                        refine lv_iconst (v := 0) hx hb d_MD_planned_183 (by decide) ?_
                        refine lv_istore (lv' := [(5, .int 0), (0, .ref (ad 0)), (2, .int x2), (3, .int x3), (4, .int x4), (6, .int x6)]) hx hb d_MD_planned_184 hl (by decide) rfl (fun ls hl => ?_)
                        refine lv_iinc (v := x6 + 1) (lv' := [(6, .int (x6 + 1)), (5, .int 0), (0, .ref (ad 0)), (2, .int x2), (3, .int x3), (4, .int x4)]) hx hb d_MD_planned_186 hl (k := 5) rfl rfl (by decide) rfl (fun ls hl => ?_)
                        refine lv_goto (tgt := 132) hx hb d_MD_planned_189 (by decide) ?_
                        exact ih132 x2 x3 x4 0 (x6 + 1) σ h _ _ hW _ (lv_sub hl [2, 3, 4, 5, 1, 0] rfl)
                      · rw [if_neg c154] at h
                        refine lv_aload_n hx hb d_MD_planned_148 rfl (lv_at hl 0 rfl) ?_
                        refine gf_MD_65 C hW.1 d_MD_planned_149 ?_
                        refine lv_iload hx hb d_MD_planned_152 (lv_at hl 5 rfl) ?_
                        obtain ⟨hin, h⟩ := gd_some h
                        refine alR_19 C hW.1 hin d_MD_planned_154 ?_
                        refine lv_iload_n hx hb d_MD_planned_155 rfl (lv_at hl 2 rfl) ?_
                        refine lv_iload hx hb d_MD_planned_156 (lv_at hl 3 rfl) ?_
                        obtain ⟨r155, g_r155, h⟩ := ob_some h
                        refine cl_MD_98 (rest := []) C (hml.trans hl.1.symm) hW.1 g_r155 ⟨Nat.le_of_ble_eq_true rfl, Nat.le_of_ble_eq_true rfl⟩ (Nat.le_of_ble_eq_true rfl) d_MD_planned_158 ⟨Nat.zero_le _, Nat.zero_le _⟩ ?_
                        refine lv_if_eq (tgt := 179) hx hb d_MD_planned_161 (by decide) (fun c156 => ?_) (fun c156 => ?_)
                        · rw [if_pos c156] at h
                          refine lv_iconst (v := 1) hx hb d_MD_planned_179 (by decide) ?_
                          refine lv_goto (tgt := 184) hx hb d_MD_planned_180 (by decide) ?_
                          refine lv_istore (lv' := [(5, .int 1), (0, .ref (ad 0)), (2, .int x2), (3, .int x3), (4, .int x4), (6, .int x6)]) hx hb d_MD_planned_184 hl (by decide) rfl (fun ls hl => ?_)
                          refine lv_iinc (v := x6 + 1) (lv' := [(6, .int (x6 + 1)), (5, .int 1), (0, .ref (ad 0)), (2, .int x2), (3, .int x3), (4, .int x4)]) hx hb d_MD_planned_186 hl (k := 5) rfl rfl (by decide) rfl (fun ls hl => ?_)
                          refine lv_goto (tgt := 132) hx hb d_MD_planned_189 (by decide) ?_
                          exact ih132 x2 x3 x4 1 (x6 + 1) σ h _ _ hW _ (lv_sub hl [2, 3, 4, 5, 1, 0] rfl)
                        · rw [if_neg c156] at h
                          refine lv_aload_n hx hb d_MD_planned_164 rfl (lv_at hl 0 rfl) ?_
                          refine lv_iload_n hx hb d_MD_planned_165 rfl (lv_at hl 1 rfl) ?_
                          refine lv_aload_n hx hb d_MD_planned_166 rfl (lv_at hl 0 rfl) ?_
                          refine gf_MD_65 C hW.1 d_MD_planned_167 ?_
                          refine lv_iload hx hb d_MD_planned_170 (lv_at hl 5 rfl) ?_
                          obtain ⟨hin, h⟩ := gd_some h
                          refine alR_19 C hW.1 hin d_MD_planned_172 ?_
                          obtain ⟨r157, g_r157, h⟩ := ob_some h
                          refine cl_MD_139 (rest := []) C (hml.trans hl.1.symm) hW.1 g_r157 ⟨Nat.le_of_ble_eq_true rfl, Nat.le_of_ble_eq_true rfl⟩ (Nat.le_of_ble_eq_true rfl) d_MD_planned_173 ⟨Nat.zero_le _, Nat.zero_le _⟩ ?_
                          refine lv_if_eq (tgt := 183) hx hb d_MD_planned_176 (by decide) (fun c158 => ?_) (fun c158 => ?_)
                          · rw [if_pos c158] at h
                            refine lv_iconst (v := 0) hx hb d_MD_planned_183 (by decide) ?_
                            refine lv_istore (lv' := [(5, .int 0), (0, .ref (ad 0)), (2, .int x2), (3, .int x3), (4, .int x4), (6, .int x6)]) hx hb d_MD_planned_184 hl (by decide) rfl (fun ls hl => ?_)
                            refine lv_iinc (v := x6 + 1) (lv' := [(6, .int (x6 + 1)), (5, .int 0), (0, .ref (ad 0)), (2, .int x2), (3, .int x3), (4, .int x4)]) hx hb d_MD_planned_186 hl (k := 5) rfl rfl (by decide) rfl (fun ls hl => ?_)
                            refine lv_goto (tgt := 132) hx hb d_MD_planned_189 (by decide) ?_
                            exact ih132 x2 x3 x4 0 (x6 + 1) σ h _ _ hW _ (lv_sub hl [2, 3, 4, 5, 1, 0] rfl)
                          · rw [if_neg c158] at h
                            refine lv_iconst (v := 1) hx hb d_MD_planned_179 (by decide) ?_
                            refine lv_goto (tgt := 184) hx hb d_MD_planned_180 (by decide) ?_
                            refine lv_istore (lv' := [(5, .int 1), (0, .ref (ad 0)), (2, .int x2), (3, .int x3), (4, .int x4), (6, .int x6)]) hx hb d_MD_planned_184 hl (by decide) rfl (fun ls hl => ?_)
                            refine lv_iinc (v := x6 + 1) (lv' := [(6, .int (x6 + 1)), (5, .int 1), (0, .ref (ad 0)), (2, .int x2), (3, .int x3), (4, .int x4)]) hx hb d_MD_planned_186 hl (k := 5) rfl rfl (by decide) rfl (fun ls hl => ?_)
                            refine lv_goto (tgt := 132) hx hb d_MD_planned_189 (by decide) ?_
                            exact ih132 x2 x3 x4 1 (x6 + 1) σ h _ _ hW _ (lv_sub hl [2, 3, 4, 5, 1, 0] rfl)
                exact k132 _ x2 x3 x4 r152 0 σ151 h _ _ hW _ (lv_sub hl [2, 4, 5, 6, 1, 0] rfl)
              · rw [if_pos c146] at h
                refine lv_iconst (v := 0) hx hb d_MD_planned_68 (by decide) ?_
                exact W.iret hx hb hr (fun t ht _ => qr_i h ht hW) hW.2.2.2 d_MD_planned_69
            exact k62 x1 x2 x3 x4 0 0 s0 σ h _ _ hW _ (lv_sub hl [0, 1, 2, 3, 4] rfl)
          · rw [if_neg c125] at h
            refine lv_iconst (v := 1) hx hb d_MD_planned_57 (by decide) ?_
            refine lv_goto (tgt := 62) hx hb d_MD_planned_58 (by decide) ?_
            have k62 : ∀ (x1 : Int32) (x2 : Int32) (x3 : Int32) (x4 : Int32) (s0 : Int32) (s1 : Int32) (s2 : Int32) (σ : Sg) (h : C_MD_planned_62 x1 x2 x3 x4 s0 s1 s2 σ = some out) (H : Heap) (locs : List Loc) (hW : WR G ad cI cZ s σ H locs) (ls : Array Slot) (hl : lv_has ls 7 [(0, .ref (ad 0)), (1, .int x1), (2, .int x2), (3, .int x3), (4, .int x4)]), W p l e (headSpec wl_MD_planned ({ frames := 4, cells := 0, slots := 0, locals := 97 } : Room)).room s m (([.ref (ad 0), .int a1, .int a2, .int a3, .int a4] : List Value).toArray) below meth c H locs 0 0 (MQ below (QRi G ad cI cZ out) (([.ref (ad 0), .int a1, .int a2, .int a3, .int a4] : List Value).toArray) s 0 0 (AR ad)) (F0 m 62 ls [.int s0, .int s1, .int s2, .ref (ad 0)]) := by
              intro x1 x2 x3 x4 s0 s1 s2 σ h H locs hW ls hl
              unfold C_MD_planned_62 at h
              obtain ⟨r126, g_r126, h⟩ := ob_some h
              refine cl_MD_102 (rest := []) C hD (hml.trans hl.1.symm) hW g_r126 ⟨Nat.le_of_ble_eq_true rfl, Nat.le_of_ble_eq_true rfl⟩ (Nat.le_of_ble_eq_true rfl) d_MD_planned_62 ⟨Nat.zero_le _, Nat.zero_le _⟩ (fun H locs hW => ?_)
              refine lv_if_ne (tgt := 70) hx hb d_MD_planned_65 (by decide) (fun c127 => ?_) (fun c127 => ?_)
              · rw [if_neg c127] at h
                refine lv_aload_n hx hb d_MD_planned_70 rfl (lv_at hl 0 rfl) ?_
                refine gf_MD_59 C hW.1 d_MD_planned_71 ?_
                refine lv_aload_n hx hb d_MD_planned_74 rfl (lv_at hl 0 rfl) ?_
                refine gf_MD_123 C hW.1 d_MD_planned_75 ?_
                refine lv_iload_n hx hb d_MD_planned_78 rfl (lv_at hl 1 rfl) ?_
                obtain ⟨hin, h⟩ := gd_some h
                refine asR_17 C hD hW hin d_MD_planned_79 (fun H locs hW => ?_)
                obtain ⟨σ128, e_σ128, h⟩ := lt1_some h
                rw [← e_σ128] at hW
                refine lv_aload_n hx hb d_MD_planned_80 rfl (lv_at hl 0 rfl) ?_
                refine gf_MD_62 C hW.1 d_MD_planned_81 ?_
                refine lv_aload_n hx hb d_MD_planned_84 rfl (lv_at hl 0 rfl) ?_
                refine gf_MD_123 C hW.1 d_MD_planned_85 ?_
                refine lv_iload_n hx hb d_MD_planned_88 rfl (lv_at hl 2 rfl) ?_
                obtain ⟨hin, h⟩ := gd_some h
                refine asR_18 C hD hW hin d_MD_planned_89 (fun H locs hW => ?_)
                obtain ⟨σ129, e_σ129, h⟩ := lt1_some h
                rw [← e_σ129] at hW
                refine lv_aload_n hx hb d_MD_planned_90 rfl (lv_at hl 0 rfl) ?_
                refine gf_MD_65 C hW.1 d_MD_planned_91 ?_
                refine lv_aload_n hx hb d_MD_planned_94 rfl (lv_at hl 0 rfl) ?_
                refine gf_MD_123 C hW.1 d_MD_planned_95 ?_
                refine lv_iload_n hx hb d_MD_planned_98 rfl (lv_at hl 3 rfl) ?_
                obtain ⟨hin, h⟩ := gd_some h
                refine asR_19 C hD hW hin d_MD_planned_99 (fun H locs hW => ?_)
                obtain ⟨σ130, e_σ130, h⟩ := lt1_some h
                rw [← e_σ130] at hW
                refine lv_aload_n hx hb d_MD_planned_100 rfl (lv_at hl 0 rfl) ?_
                refine gf_MD_68 C hW.1 d_MD_planned_101 ?_
                refine lv_aload_n hx hb d_MD_planned_104 rfl (lv_at hl 0 rfl) ?_
                refine gf_MD_123 C hW.1 d_MD_planned_105 ?_
                refine lv_iload hx hb d_MD_planned_108 (lv_at hl 4 rfl) ?_
                obtain ⟨hin, h⟩ := gd_some h
                refine asR_20 C hD hW hin d_MD_planned_110 (fun H locs hW => ?_)
                obtain ⟨σ131, e_σ131, h⟩ := lt1_some h
                rw [← e_σ131] at hW
                refine lv_aload_n hx hb d_MD_planned_111 rfl (lv_at hl 0 rfl) ?_
                refine lv_dup hx hb d_MD_planned_112 rfl ?_
                refine gf_MD_123 C hW.1 d_MD_planned_113 ?_
                refine lv_iconst (v := 1) hx hb d_MD_planned_116 (by decide) ?_
                refine lv_iadd hx hb d_MD_planned_117 ?_
                refine pf_MD_123 C hD hW d_MD_planned_118 (fun H locs hW => ?_)
                obtain ⟨σ132, e_σ132, h⟩ := lt1_some h
                rw [← e_σ132] at hW
                refine lv_aload_n hx hb d_MD_planned_121 rfl (lv_at hl 0 rfl) ?_
                refine lv_iload_n hx hb d_MD_planned_122 rfl (lv_at hl 2 rfl) ?_
                refine lv_iload_n hx hb d_MD_planned_123 rfl (lv_at hl 3 rfl) ?_
                obtain ⟨r133, g_r133, h⟩ := ob_some h
                refine cl_MD_139 (rest := []) C (hml.trans hl.1.symm) hW.1 g_r133 ⟨Nat.le_of_ble_eq_true rfl, Nat.le_of_ble_eq_true rfl⟩ (Nat.le_of_ble_eq_true rfl) d_MD_planned_124 ⟨Nat.zero_le _, Nat.zero_le _⟩ ?_
                refine lv_istore (lv' := [(5, .int r133), (0, .ref (ad 0)), (1, .int x1), (2, .int x2), (3, .int x3), (4, .int x4)]) hx hb d_MD_planned_127 hl (by decide) rfl (fun ls hl => ?_)
                refine lv_iconst (v := 0) hx hb d_MD_planned_129 (by decide) ?_
                refine lv_istore (lv' := [(6, .int 0), (5, .int r133), (0, .ref (ad 0)), (1, .int x1), (2, .int x2), (3, .int x3), (4, .int x4)]) hx hb d_MD_planned_130 hl (by decide) rfl (fun ls hl => ?_)
                have k132 : ∀ (n132 : Nat) (x2 : Int32) (x3 : Int32) (x4 : Int32) (x5 : Int32) (x6 : Int32) (σ : Sg) (h : L_MD_planned_132 n132 x2 x3 x4 x5 x6 σ = some out) (H : Heap) (locs : List Loc) (hW : WR G ad cI cZ s σ H locs) (ls : Array Slot) (hl : lv_has ls 7 [(0, .ref (ad 0)), (2, .int x2), (3, .int x3), (4, .int x4), (5, .int x5), (6, .int x6)]), W p l e (headSpec wl_MD_planned ({ frames := 4, cells := 0, slots := 0, locals := 97 } : Room)).room s m (([.ref (ad 0), .int a1, .int a2, .int a3, .int a4] : List Value).toArray) below meth c H locs 0 0 (MQ below (QRi G ad cI cZ out) (([.ref (ad 0), .int a1, .int a2, .int a3, .int a4] : List Value).toArray) s 0 0 (AR ad)) (F0 m 132 ls []) := by
                  intro n132
                  induction n132 with
                  | zero =>
                    intro x2 x3 x4 x5 x6 σ h
                    exact absurd h (by intro z; cases z)
                  | succ n132 ih132 =>
                    intro x2 x3 x4 x5 x6 σ h H locs hW ls hl
                    replace h : B_MD_planned_132 (L_MD_planned_132 n132) x2 x3 x4 x5 x6 σ = some out := h
                    unfold B_MD_planned_132 at h
                    refine lv_iload hx hb d_MD_planned_132 (lv_at hl 5 rfl) ?_
                    refine lv_aload_n hx hb d_MD_planned_134 rfl (lv_at hl 0 rfl) ?_
                    refine gf_MD_123 C hW.1 d_MD_planned_135 ?_
                    refine lv_iconst (v := 1) hx hb d_MD_planned_138 (by decide) ?_
                    refine lv_isub hx hb d_MD_planned_139 ?_
                    refine lv_icmp_ge (tgt := 192) hx hb d_MD_planned_140 (by decide) (fun c134 => ?_) (fun c134 => ?_)
                    · rw [if_pos c134] at h
                      refine lv_aload_n hx hb d_MD_planned_192 rfl (lv_at hl 0 rfl) ?_
                      refine lv_iload hx hb d_MD_planned_193 (lv_at hl 4 rfl) ?_
                      refine lv_if_eq (tgt := 205) hx hb d_MD_planned_195 (by decide) (fun c140 => ?_) (fun c140 => ?_)
                      · rw [if_pos c140] at h
                        refine lv_aload_n hx hb d_MD_planned_205 rfl (lv_at hl 0 rfl) ?_
                        refine gf_MD_123 C hW.1 d_MD_planned_206 ?_
                        refine lv_iconst (v := 1) hx hb d_MD_planned_209 (by decide) ?_
                        refine lv_isub hx hb d_MD_planned_210 ?_
                        refine pf_MD_123 C hD hW d_MD_planned_211 (fun H locs hW => ?_)
                        obtain ⟨σ143, e_σ143, h⟩ := lt1_some h
                        rw [← e_σ143] at hW
                        refine lv_iload hx hb d_MD_planned_214 (lv_at hl 4 rfl) ?_
                        refine lv_if_eq (tgt := 223) hx hb d_MD_planned_216 (by decide) (fun c144 => ?_) (fun c144 => ?_)
                        · rw [if_pos c144] at h
                          refine lv_iconst (v := 1) hx hb d_MD_planned_223 (by decide) ?_
                          exact W.iret hx hb hr (fun t ht _ => qr_i h ht hW) hW.2.2.2 d_MD_planned_224
                        · rw [if_neg c144] at h
                          refine lv_iconst (v := 0) hx hb d_MD_planned_219 (by decide) ?_
                          refine lv_goto (tgt := 224) hx hb d_MD_planned_220 (by decide) ?_
                          exact W.iret hx hb hr (fun t ht _ => qr_i h ht hW) hW.2.2.2 d_MD_planned_224
                      · rw [if_neg c140] at h
                        refine lv_aload_n hx hb d_MD_planned_198 rfl (lv_at hl 0 rfl) ?_
                        refine gf_MD_123 C hW.1 d_MD_planned_199 ?_
                        refine lv_goto (tgt := 211) hx hb d_MD_planned_202 (by decide) ?_
                        refine pf_MD_123 C hD hW d_MD_planned_211 (fun H locs hW => ?_)
                        obtain ⟨σ141, e_σ141, h⟩ := lt1_some h
                        rw [← e_σ141] at hW
                        refine lv_iload hx hb d_MD_planned_214 (lv_at hl 4 rfl) ?_
                        refine lv_if_eq (tgt := 223) hx hb d_MD_planned_216 (by decide) (fun c142 => ?_) (fun c142 => ?_)
                        · rw [if_pos c142] at h
                          refine lv_iconst (v := 1) hx hb d_MD_planned_223 (by decide) ?_
                          exact W.iret hx hb hr (fun t ht _ => qr_i h ht hW) hW.2.2.2 d_MD_planned_224
                        · rw [if_neg c142] at h
                          refine lv_iconst (v := 0) hx hb d_MD_planned_219 (by decide) ?_
                          refine lv_goto (tgt := 224) hx hb d_MD_planned_220 (by decide) ?_
                          exact W.iret hx hb hr (fun t ht _ => qr_i h ht hW) hW.2.2.2 d_MD_planned_224
                    · rw [if_neg c134] at h
                      refine lv_iload hx hb d_MD_planned_143 (lv_at hl 4 rfl) ?_
                      refine lv_if_eq (tgt := 183) hx hb d_MD_planned_145 (by decide) (fun c135 => ?_) (fun c135 => ?_)
                      · rw [if_pos c135] at h
                        refine lv_iconst (v := 0) hx hb d_MD_planned_183 (by decide) ?_
                        refine lv_istore (lv' := [(5, .int 0), (0, .ref (ad 0)), (2, .int x2), (3, .int x3), (4, .int x4), (6, .int x6)]) hx hb d_MD_planned_184 hl (by decide) rfl (fun ls hl => ?_)
                        refine lv_iinc (v := x6 + 1) (lv' := [(6, .int (x6 + 1)), (5, .int 0), (0, .ref (ad 0)), (2, .int x2), (3, .int x3), (4, .int x4)]) hx hb d_MD_planned_186 hl (k := 5) rfl rfl (by decide) rfl (fun ls hl => ?_)
                        refine lv_goto (tgt := 132) hx hb d_MD_planned_189 (by decide) ?_
                        exact ih132 x2 x3 x4 0 (x6 + 1) σ h _ _ hW _ (lv_sub hl [2, 3, 4, 5, 1, 0] rfl)
                      · rw [if_neg c135] at h
                        refine lv_aload_n hx hb d_MD_planned_148 rfl (lv_at hl 0 rfl) ?_
                        refine gf_MD_65 C hW.1 d_MD_planned_149 ?_
                        refine lv_iload hx hb d_MD_planned_152 (lv_at hl 5 rfl) ?_
                        obtain ⟨hin, h⟩ := gd_some h
                        refine alR_19 C hW.1 hin d_MD_planned_154 ?_
                        refine lv_iload_n hx hb d_MD_planned_155 rfl (lv_at hl 2 rfl) ?_
                        refine lv_iload hx hb d_MD_planned_156 (lv_at hl 3 rfl) ?_
                        obtain ⟨r136, g_r136, h⟩ := ob_some h
                        refine cl_MD_98 (rest := []) C (hml.trans hl.1.symm) hW.1 g_r136 ⟨Nat.le_of_ble_eq_true rfl, Nat.le_of_ble_eq_true rfl⟩ (Nat.le_of_ble_eq_true rfl) d_MD_planned_158 ⟨Nat.zero_le _, Nat.zero_le _⟩ ?_
                        refine lv_if_eq (tgt := 179) hx hb d_MD_planned_161 (by decide) (fun c137 => ?_) (fun c137 => ?_)
                        · rw [if_pos c137] at h
                          refine lv_iconst (v := 1) hx hb d_MD_planned_179 (by decide) ?_
                          refine lv_goto (tgt := 184) hx hb d_MD_planned_180 (by decide) ?_
                          refine lv_istore (lv' := [(5, .int 1), (0, .ref (ad 0)), (2, .int x2), (3, .int x3), (4, .int x4), (6, .int x6)]) hx hb d_MD_planned_184 hl (by decide) rfl (fun ls hl => ?_)
                          refine lv_iinc (v := x6 + 1) (lv' := [(6, .int (x6 + 1)), (5, .int 1), (0, .ref (ad 0)), (2, .int x2), (3, .int x3), (4, .int x4)]) hx hb d_MD_planned_186 hl (k := 5) rfl rfl (by decide) rfl (fun ls hl => ?_)
                          refine lv_goto (tgt := 132) hx hb d_MD_planned_189 (by decide) ?_
                          exact ih132 x2 x3 x4 1 (x6 + 1) σ h _ _ hW _ (lv_sub hl [2, 3, 4, 5, 1, 0] rfl)
                        · rw [if_neg c137] at h
                          refine lv_aload_n hx hb d_MD_planned_164 rfl (lv_at hl 0 rfl) ?_
                          refine lv_iload_n hx hb d_MD_planned_165 rfl (lv_at hl 1 rfl) ?_
                          refine lv_aload_n hx hb d_MD_planned_166 rfl (lv_at hl 0 rfl) ?_
                          refine gf_MD_65 C hW.1 d_MD_planned_167 ?_
                          refine lv_iload hx hb d_MD_planned_170 (lv_at hl 5 rfl) ?_
                          obtain ⟨hin, h⟩ := gd_some h
                          refine alR_19 C hW.1 hin d_MD_planned_172 ?_
                          obtain ⟨r138, g_r138, h⟩ := ob_some h
                          refine cl_MD_139 (rest := []) C (hml.trans hl.1.symm) hW.1 g_r138 ⟨Nat.le_of_ble_eq_true rfl, Nat.le_of_ble_eq_true rfl⟩ (Nat.le_of_ble_eq_true rfl) d_MD_planned_173 ⟨Nat.zero_le _, Nat.zero_le _⟩ ?_
                          refine lv_if_eq (tgt := 183) hx hb d_MD_planned_176 (by decide) (fun c139 => ?_) (fun c139 => ?_)
                          · rw [if_pos c139] at h
                            refine lv_iconst (v := 0) hx hb d_MD_planned_183 (by decide) ?_
                            refine lv_istore (lv' := [(5, .int 0), (0, .ref (ad 0)), (2, .int x2), (3, .int x3), (4, .int x4), (6, .int x6)]) hx hb d_MD_planned_184 hl (by decide) rfl (fun ls hl => ?_)
                            refine lv_iinc (v := x6 + 1) (lv' := [(6, .int (x6 + 1)), (5, .int 0), (0, .ref (ad 0)), (2, .int x2), (3, .int x3), (4, .int x4)]) hx hb d_MD_planned_186 hl (k := 5) rfl rfl (by decide) rfl (fun ls hl => ?_)
                            refine lv_goto (tgt := 132) hx hb d_MD_planned_189 (by decide) ?_
                            exact ih132 x2 x3 x4 0 (x6 + 1) σ h _ _ hW _ (lv_sub hl [2, 3, 4, 5, 1, 0] rfl)
                          · rw [if_neg c139] at h
                            refine lv_iconst (v := 1) hx hb d_MD_planned_179 (by decide) ?_
                            refine lv_goto (tgt := 184) hx hb d_MD_planned_180 (by decide) ?_
                            refine lv_istore (lv' := [(5, .int 1), (0, .ref (ad 0)), (2, .int x2), (3, .int x3), (4, .int x4), (6, .int x6)]) hx hb d_MD_planned_184 hl (by decide) rfl (fun ls hl => ?_)
                            refine lv_iinc (v := x6 + 1) (lv' := [(6, .int (x6 + 1)), (5, .int 1), (0, .ref (ad 0)), (2, .int x2), (3, .int x3), (4, .int x4)]) hx hb d_MD_planned_186 hl (k := 5) rfl rfl (by decide) rfl (fun ls hl => ?_)
                            refine lv_goto (tgt := 132) hx hb d_MD_planned_189 (by decide) ?_
                            exact ih132 x2 x3 x4 1 (x6 + 1) σ h _ _ hW _ (lv_sub hl [2, 3, 4, 5, 1, 0] rfl)
                exact k132 _ x2 x3 x4 r133 0 σ132 h _ _ hW _ (lv_sub hl [2, 4, 5, 6, 1, 0] rfl)
              · rw [if_pos c127] at h
                refine lv_iconst (v := 0) hx hb d_MD_planned_68 (by decide) ?_
                exact W.iret hx hb hr (fun t ht _ => qr_i h ht hW) hW.2.2.2 d_MD_planned_69
            exact k62 x1 x2 x3 x4 1 0 s0 σ h _ _ hW _ (lv_sub hl [0, 1, 2, 3, 4] rfl)
        · rw [if_neg c5] at h
          refine lv_iload hx hb d_MD_planned_30 (lv_at hl 4 rfl) ?_
          refine lv_iload_n hx hb d_MD_planned_32 rfl (lv_at hl 3 rfl) ?_
          refine lv_icmp_lt (tgt := 47) hx hb d_MD_planned_33 (by decide) (fun c6 => ?_) (fun c6 => ?_)
          · rw [if_pos c6] at h
            refine lv_iconst (v := 0) hx hb d_MD_planned_47 (by decide) ?_
            refine lv_aload_n hx hb d_MD_planned_48 rfl (lv_at hl 0 rfl) ?_
            refine gf_MD_123 C hW.1 d_MD_planned_49 ?_
            refine lv_bipush (v := 30) hx hb d_MD_planned_52 (by decide) ?_
            refine lv_icmp_ge (tgt := 61) hx hb d_MD_planned_54 (by decide) (fun c86 => ?_) (fun c86 => ?_)
            · rw [if_pos c86] at h
              refine lv_iconst (v := 0) hx hb d_MD_planned_61 (by decide) ?_
              have k62 : ∀ (x1 : Int32) (x2 : Int32) (x3 : Int32) (x4 : Int32) (s0 : Int32) (s1 : Int32) (s2 : Int32) (σ : Sg) (h : C_MD_planned_62 x1 x2 x3 x4 s0 s1 s2 σ = some out) (H : Heap) (locs : List Loc) (hW : WR G ad cI cZ s σ H locs) (ls : Array Slot) (hl : lv_has ls 7 [(0, .ref (ad 0)), (1, .int x1), (2, .int x2), (3, .int x3), (4, .int x4)]), W p l e (headSpec wl_MD_planned ({ frames := 4, cells := 0, slots := 0, locals := 97 } : Room)).room s m (([.ref (ad 0), .int a1, .int a2, .int a3, .int a4] : List Value).toArray) below meth c H locs 0 0 (MQ below (QRi G ad cI cZ out) (([.ref (ad 0), .int a1, .int a2, .int a3, .int a4] : List Value).toArray) s 0 0 (AR ad)) (F0 m 62 ls [.int s0, .int s1, .int s2, .ref (ad 0)]) := by
                intro x1 x2 x3 x4 s0 s1 s2 σ h H locs hW ls hl
                unfold C_MD_planned_62 at h
                obtain ⟨r106, g_r106, h⟩ := ob_some h
                refine cl_MD_102 (rest := []) C hD (hml.trans hl.1.symm) hW g_r106 ⟨Nat.le_of_ble_eq_true rfl, Nat.le_of_ble_eq_true rfl⟩ (Nat.le_of_ble_eq_true rfl) d_MD_planned_62 ⟨Nat.zero_le _, Nat.zero_le _⟩ (fun H locs hW => ?_)
                refine lv_if_ne (tgt := 70) hx hb d_MD_planned_65 (by decide) (fun c107 => ?_) (fun c107 => ?_)
                · rw [if_neg c107] at h
                  refine lv_aload_n hx hb d_MD_planned_70 rfl (lv_at hl 0 rfl) ?_
                  refine gf_MD_59 C hW.1 d_MD_planned_71 ?_
                  refine lv_aload_n hx hb d_MD_planned_74 rfl (lv_at hl 0 rfl) ?_
                  refine gf_MD_123 C hW.1 d_MD_planned_75 ?_
                  refine lv_iload_n hx hb d_MD_planned_78 rfl (lv_at hl 1 rfl) ?_
                  obtain ⟨hin, h⟩ := gd_some h
                  refine asR_17 C hD hW hin d_MD_planned_79 (fun H locs hW => ?_)
                  obtain ⟨σ108, e_σ108, h⟩ := lt1_some h
                  rw [← e_σ108] at hW
                  refine lv_aload_n hx hb d_MD_planned_80 rfl (lv_at hl 0 rfl) ?_
                  refine gf_MD_62 C hW.1 d_MD_planned_81 ?_
                  refine lv_aload_n hx hb d_MD_planned_84 rfl (lv_at hl 0 rfl) ?_
                  refine gf_MD_123 C hW.1 d_MD_planned_85 ?_
                  refine lv_iload_n hx hb d_MD_planned_88 rfl (lv_at hl 2 rfl) ?_
                  obtain ⟨hin, h⟩ := gd_some h
                  refine asR_18 C hD hW hin d_MD_planned_89 (fun H locs hW => ?_)
                  obtain ⟨σ109, e_σ109, h⟩ := lt1_some h
                  rw [← e_σ109] at hW
                  refine lv_aload_n hx hb d_MD_planned_90 rfl (lv_at hl 0 rfl) ?_
                  refine gf_MD_65 C hW.1 d_MD_planned_91 ?_
                  refine lv_aload_n hx hb d_MD_planned_94 rfl (lv_at hl 0 rfl) ?_
                  refine gf_MD_123 C hW.1 d_MD_planned_95 ?_
                  refine lv_iload_n hx hb d_MD_planned_98 rfl (lv_at hl 3 rfl) ?_
                  obtain ⟨hin, h⟩ := gd_some h
                  refine asR_19 C hD hW hin d_MD_planned_99 (fun H locs hW => ?_)
                  obtain ⟨σ110, e_σ110, h⟩ := lt1_some h
                  rw [← e_σ110] at hW
                  refine lv_aload_n hx hb d_MD_planned_100 rfl (lv_at hl 0 rfl) ?_
                  refine gf_MD_68 C hW.1 d_MD_planned_101 ?_
                  refine lv_aload_n hx hb d_MD_planned_104 rfl (lv_at hl 0 rfl) ?_
                  refine gf_MD_123 C hW.1 d_MD_planned_105 ?_
                  refine lv_iload hx hb d_MD_planned_108 (lv_at hl 4 rfl) ?_
                  obtain ⟨hin, h⟩ := gd_some h
                  refine asR_20 C hD hW hin d_MD_planned_110 (fun H locs hW => ?_)
                  obtain ⟨σ111, e_σ111, h⟩ := lt1_some h
                  rw [← e_σ111] at hW
                  refine lv_aload_n hx hb d_MD_planned_111 rfl (lv_at hl 0 rfl) ?_
                  refine lv_dup hx hb d_MD_planned_112 rfl ?_
                  refine gf_MD_123 C hW.1 d_MD_planned_113 ?_
                  refine lv_iconst (v := 1) hx hb d_MD_planned_116 (by decide) ?_
                  refine lv_iadd hx hb d_MD_planned_117 ?_
                  refine pf_MD_123 C hD hW d_MD_planned_118 (fun H locs hW => ?_)
                  obtain ⟨σ112, e_σ112, h⟩ := lt1_some h
                  rw [← e_σ112] at hW
                  refine lv_aload_n hx hb d_MD_planned_121 rfl (lv_at hl 0 rfl) ?_
                  refine lv_iload_n hx hb d_MD_planned_122 rfl (lv_at hl 2 rfl) ?_
                  refine lv_iload_n hx hb d_MD_planned_123 rfl (lv_at hl 3 rfl) ?_
                  obtain ⟨r113, g_r113, h⟩ := ob_some h
                  refine cl_MD_139 (rest := []) C (hml.trans hl.1.symm) hW.1 g_r113 ⟨Nat.le_of_ble_eq_true rfl, Nat.le_of_ble_eq_true rfl⟩ (Nat.le_of_ble_eq_true rfl) d_MD_planned_124 ⟨Nat.zero_le _, Nat.zero_le _⟩ ?_
                  refine lv_istore (lv' := [(5, .int r113), (0, .ref (ad 0)), (1, .int x1), (2, .int x2), (3, .int x3), (4, .int x4)]) hx hb d_MD_planned_127 hl (by decide) rfl (fun ls hl => ?_)
                  refine lv_iconst (v := 0) hx hb d_MD_planned_129 (by decide) ?_
                  refine lv_istore (lv' := [(6, .int 0), (5, .int r113), (0, .ref (ad 0)), (1, .int x1), (2, .int x2), (3, .int x3), (4, .int x4)]) hx hb d_MD_planned_130 hl (by decide) rfl (fun ls hl => ?_)
                  have k132 : ∀ (n132 : Nat) (x2 : Int32) (x3 : Int32) (x4 : Int32) (x5 : Int32) (x6 : Int32) (σ : Sg) (h : L_MD_planned_132 n132 x2 x3 x4 x5 x6 σ = some out) (H : Heap) (locs : List Loc) (hW : WR G ad cI cZ s σ H locs) (ls : Array Slot) (hl : lv_has ls 7 [(0, .ref (ad 0)), (2, .int x2), (3, .int x3), (4, .int x4), (5, .int x5), (6, .int x6)]), W p l e (headSpec wl_MD_planned ({ frames := 4, cells := 0, slots := 0, locals := 97 } : Room)).room s m (([.ref (ad 0), .int a1, .int a2, .int a3, .int a4] : List Value).toArray) below meth c H locs 0 0 (MQ below (QRi G ad cI cZ out) (([.ref (ad 0), .int a1, .int a2, .int a3, .int a4] : List Value).toArray) s 0 0 (AR ad)) (F0 m 132 ls []) := by
                    intro n132
                    induction n132 with
                    | zero =>
                      intro x2 x3 x4 x5 x6 σ h
                      exact absurd h (by intro z; cases z)
                    | succ n132 ih132 =>
                      intro x2 x3 x4 x5 x6 σ h H locs hW ls hl
                      replace h : B_MD_planned_132 (L_MD_planned_132 n132) x2 x3 x4 x5 x6 σ = some out := h
                      unfold B_MD_planned_132 at h
                      refine lv_iload hx hb d_MD_planned_132 (lv_at hl 5 rfl) ?_
                      refine lv_aload_n hx hb d_MD_planned_134 rfl (lv_at hl 0 rfl) ?_
                      refine gf_MD_123 C hW.1 d_MD_planned_135 ?_
                      refine lv_iconst (v := 1) hx hb d_MD_planned_138 (by decide) ?_
                      refine lv_isub hx hb d_MD_planned_139 ?_
                      refine lv_icmp_ge (tgt := 192) hx hb d_MD_planned_140 (by decide) (fun c114 => ?_) (fun c114 => ?_)
                      · rw [if_pos c114] at h
                        refine lv_aload_n hx hb d_MD_planned_192 rfl (lv_at hl 0 rfl) ?_
                        refine lv_iload hx hb d_MD_planned_193 (lv_at hl 4 rfl) ?_
                        refine lv_if_eq (tgt := 205) hx hb d_MD_planned_195 (by decide) (fun c120 => ?_) (fun c120 => ?_)
                        · rw [if_pos c120] at h
                          refine lv_aload_n hx hb d_MD_planned_205 rfl (lv_at hl 0 rfl) ?_
                          refine gf_MD_123 C hW.1 d_MD_planned_206 ?_
                          refine lv_iconst (v := 1) hx hb d_MD_planned_209 (by decide) ?_
                          refine lv_isub hx hb d_MD_planned_210 ?_
                          refine pf_MD_123 C hD hW d_MD_planned_211 (fun H locs hW => ?_)
                          obtain ⟨σ123, e_σ123, h⟩ := lt1_some h
                          rw [← e_σ123] at hW
                          refine lv_iload hx hb d_MD_planned_214 (lv_at hl 4 rfl) ?_
                          refine lv_if_eq (tgt := 223) hx hb d_MD_planned_216 (by decide) (fun c124 => ?_) (fun c124 => ?_)
                          · rw [if_pos c124] at h
                            refine lv_iconst (v := 1) hx hb d_MD_planned_223 (by decide) ?_
                            exact W.iret hx hb hr (fun t ht _ => qr_i h ht hW) hW.2.2.2 d_MD_planned_224
                          · rw [if_neg c124] at h
                            refine lv_iconst (v := 0) hx hb d_MD_planned_219 (by decide) ?_
                            refine lv_goto (tgt := 224) hx hb d_MD_planned_220 (by decide) ?_
                            exact W.iret hx hb hr (fun t ht _ => qr_i h ht hW) hW.2.2.2 d_MD_planned_224
                        · rw [if_neg c120] at h
                          refine lv_aload_n hx hb d_MD_planned_198 rfl (lv_at hl 0 rfl) ?_
                          refine gf_MD_123 C hW.1 d_MD_planned_199 ?_
                          refine lv_goto (tgt := 211) hx hb d_MD_planned_202 (by decide) ?_
                          refine pf_MD_123 C hD hW d_MD_planned_211 (fun H locs hW => ?_)
                          obtain ⟨σ121, e_σ121, h⟩ := lt1_some h
                          rw [← e_σ121] at hW
                          refine lv_iload hx hb d_MD_planned_214 (lv_at hl 4 rfl) ?_
                          refine lv_if_eq (tgt := 223) hx hb d_MD_planned_216 (by decide) (fun c122 => ?_) (fun c122 => ?_)
                          · rw [if_pos c122] at h
                            refine lv_iconst (v := 1) hx hb d_MD_planned_223 (by decide) ?_
                            exact W.iret hx hb hr (fun t ht _ => qr_i h ht hW) hW.2.2.2 d_MD_planned_224
                          · rw [if_neg c122] at h
                            refine lv_iconst (v := 0) hx hb d_MD_planned_219 (by decide) ?_
                            refine lv_goto (tgt := 224) hx hb d_MD_planned_220 (by decide) ?_
                            exact W.iret hx hb hr (fun t ht _ => qr_i h ht hW) hW.2.2.2 d_MD_planned_224
                      · rw [if_neg c114] at h
                        refine lv_iload hx hb d_MD_planned_143 (lv_at hl 4 rfl) ?_
                        refine lv_if_eq (tgt := 183) hx hb d_MD_planned_145 (by decide) (fun c115 => ?_) (fun c115 => ?_)
                        · rw [if_pos c115] at h
                          refine lv_iconst (v := 0) hx hb d_MD_planned_183 (by decide) ?_
                          refine lv_istore (lv' := [(5, .int 0), (0, .ref (ad 0)), (2, .int x2), (3, .int x3), (4, .int x4), (6, .int x6)]) hx hb d_MD_planned_184 hl (by decide) rfl (fun ls hl => ?_)
                          refine lv_iinc (v := x6 + 1) (lv' := [(6, .int (x6 + 1)), (5, .int 0), (0, .ref (ad 0)), (2, .int x2), (3, .int x3), (4, .int x4)]) hx hb d_MD_planned_186 hl (k := 5) rfl rfl (by decide) rfl (fun ls hl => ?_)
                          refine lv_goto (tgt := 132) hx hb d_MD_planned_189 (by decide) ?_
                          exact ih132 x2 x3 x4 0 (x6 + 1) σ h _ _ hW _ (lv_sub hl [2, 3, 4, 5, 1, 0] rfl)
                        · rw [if_neg c115] at h
                          refine lv_aload_n hx hb d_MD_planned_148 rfl (lv_at hl 0 rfl) ?_
                          refine gf_MD_65 C hW.1 d_MD_planned_149 ?_
                          refine lv_iload hx hb d_MD_planned_152 (lv_at hl 5 rfl) ?_
                          obtain ⟨hin, h⟩ := gd_some h
                          refine alR_19 C hW.1 hin d_MD_planned_154 ?_
                          refine lv_iload_n hx hb d_MD_planned_155 rfl (lv_at hl 2 rfl) ?_
                          refine lv_iload hx hb d_MD_planned_156 (lv_at hl 3 rfl) ?_
                          obtain ⟨r116, g_r116, h⟩ := ob_some h
                          refine cl_MD_98 (rest := []) C (hml.trans hl.1.symm) hW.1 g_r116 ⟨Nat.le_of_ble_eq_true rfl, Nat.le_of_ble_eq_true rfl⟩ (Nat.le_of_ble_eq_true rfl) d_MD_planned_158 ⟨Nat.zero_le _, Nat.zero_le _⟩ ?_
                          refine lv_if_eq (tgt := 179) hx hb d_MD_planned_161 (by decide) (fun c117 => ?_) (fun c117 => ?_)
                          · rw [if_pos c117] at h
                            refine lv_iconst (v := 1) hx hb d_MD_planned_179 (by decide) ?_
                            refine lv_goto (tgt := 184) hx hb d_MD_planned_180 (by decide) ?_
                            refine lv_istore (lv' := [(5, .int 1), (0, .ref (ad 0)), (2, .int x2), (3, .int x3), (4, .int x4), (6, .int x6)]) hx hb d_MD_planned_184 hl (by decide) rfl (fun ls hl => ?_)
                            refine lv_iinc (v := x6 + 1) (lv' := [(6, .int (x6 + 1)), (5, .int 1), (0, .ref (ad 0)), (2, .int x2), (3, .int x3), (4, .int x4)]) hx hb d_MD_planned_186 hl (k := 5) rfl rfl (by decide) rfl (fun ls hl => ?_)
                            refine lv_goto (tgt := 132) hx hb d_MD_planned_189 (by decide) ?_
                            exact ih132 x2 x3 x4 1 (x6 + 1) σ h _ _ hW _ (lv_sub hl [2, 3, 4, 5, 1, 0] rfl)
                          · rw [if_neg c117] at h
                            refine lv_aload_n hx hb d_MD_planned_164 rfl (lv_at hl 0 rfl) ?_
                            refine lv_iload_n hx hb d_MD_planned_165 rfl (lv_at hl 1 rfl) ?_
                            refine lv_aload_n hx hb d_MD_planned_166 rfl (lv_at hl 0 rfl) ?_
                            refine gf_MD_65 C hW.1 d_MD_planned_167 ?_
                            refine lv_iload hx hb d_MD_planned_170 (lv_at hl 5 rfl) ?_
                            obtain ⟨hin, h⟩ := gd_some h
                            refine alR_19 C hW.1 hin d_MD_planned_172 ?_
                            obtain ⟨r118, g_r118, h⟩ := ob_some h
                            refine cl_MD_139 (rest := []) C (hml.trans hl.1.symm) hW.1 g_r118 ⟨Nat.le_of_ble_eq_true rfl, Nat.le_of_ble_eq_true rfl⟩ (Nat.le_of_ble_eq_true rfl) d_MD_planned_173 ⟨Nat.zero_le _, Nat.zero_le _⟩ ?_
                            refine lv_if_eq (tgt := 183) hx hb d_MD_planned_176 (by decide) (fun c119 => ?_) (fun c119 => ?_)
                            · rw [if_pos c119] at h
                              refine lv_iconst (v := 0) hx hb d_MD_planned_183 (by decide) ?_
                              refine lv_istore (lv' := [(5, .int 0), (0, .ref (ad 0)), (2, .int x2), (3, .int x3), (4, .int x4), (6, .int x6)]) hx hb d_MD_planned_184 hl (by decide) rfl (fun ls hl => ?_)
                              refine lv_iinc (v := x6 + 1) (lv' := [(6, .int (x6 + 1)), (5, .int 0), (0, .ref (ad 0)), (2, .int x2), (3, .int x3), (4, .int x4)]) hx hb d_MD_planned_186 hl (k := 5) rfl rfl (by decide) rfl (fun ls hl => ?_)
                              refine lv_goto (tgt := 132) hx hb d_MD_planned_189 (by decide) ?_
                              exact ih132 x2 x3 x4 0 (x6 + 1) σ h _ _ hW _ (lv_sub hl [2, 3, 4, 5, 1, 0] rfl)
                            · rw [if_neg c119] at h
                              refine lv_iconst (v := 1) hx hb d_MD_planned_179 (by decide) ?_
                              refine lv_goto (tgt := 184) hx hb d_MD_planned_180 (by decide) ?_
                              refine lv_istore (lv' := [(5, .int 1), (0, .ref (ad 0)), (2, .int x2), (3, .int x3), (4, .int x4), (6, .int x6)]) hx hb d_MD_planned_184 hl (by decide) rfl (fun ls hl => ?_)
                              refine lv_iinc (v := x6 + 1) (lv' := [(6, .int (x6 + 1)), (5, .int 1), (0, .ref (ad 0)), (2, .int x2), (3, .int x3), (4, .int x4)]) hx hb d_MD_planned_186 hl (k := 5) rfl rfl (by decide) rfl (fun ls hl => ?_)
                              refine lv_goto (tgt := 132) hx hb d_MD_planned_189 (by decide) ?_
                              exact ih132 x2 x3 x4 1 (x6 + 1) σ h _ _ hW _ (lv_sub hl [2, 3, 4, 5, 1, 0] rfl)
                  exact k132 _ x2 x3 x4 r113 0 σ112 h _ _ hW _ (lv_sub hl [2, 4, 5, 6, 1, 0] rfl)
                · rw [if_pos c107] at h
                  refine lv_iconst (v := 0) hx hb d_MD_planned_68 (by decide) ?_
                  exact W.iret hx hb hr (fun t ht _ => qr_i h ht hW) hW.2.2.2 d_MD_planned_69
              exact k62 x1 x2 x3 x4 0 0 s0 σ h _ _ hW _ (lv_sub hl [0, 1, 2, 3, 4] rfl)
            · rw [if_neg c86] at h
              refine lv_iconst (v := 1) hx hb d_MD_planned_57 (by decide) ?_
              refine lv_goto (tgt := 62) hx hb d_MD_planned_58 (by decide) ?_
              have k62 : ∀ (x1 : Int32) (x2 : Int32) (x3 : Int32) (x4 : Int32) (s0 : Int32) (s1 : Int32) (s2 : Int32) (σ : Sg) (h : C_MD_planned_62 x1 x2 x3 x4 s0 s1 s2 σ = some out) (H : Heap) (locs : List Loc) (hW : WR G ad cI cZ s σ H locs) (ls : Array Slot) (hl : lv_has ls 7 [(0, .ref (ad 0)), (1, .int x1), (2, .int x2), (3, .int x3), (4, .int x4)]), W p l e (headSpec wl_MD_planned ({ frames := 4, cells := 0, slots := 0, locals := 97 } : Room)).room s m (([.ref (ad 0), .int a1, .int a2, .int a3, .int a4] : List Value).toArray) below meth c H locs 0 0 (MQ below (QRi G ad cI cZ out) (([.ref (ad 0), .int a1, .int a2, .int a3, .int a4] : List Value).toArray) s 0 0 (AR ad)) (F0 m 62 ls [.int s0, .int s1, .int s2, .ref (ad 0)]) := by
                intro x1 x2 x3 x4 s0 s1 s2 σ h H locs hW ls hl
                unfold C_MD_planned_62 at h
                obtain ⟨r87, g_r87, h⟩ := ob_some h
                refine cl_MD_102 (rest := []) C hD (hml.trans hl.1.symm) hW g_r87 ⟨Nat.le_of_ble_eq_true rfl, Nat.le_of_ble_eq_true rfl⟩ (Nat.le_of_ble_eq_true rfl) d_MD_planned_62 ⟨Nat.zero_le _, Nat.zero_le _⟩ (fun H locs hW => ?_)
                refine lv_if_ne (tgt := 70) hx hb d_MD_planned_65 (by decide) (fun c88 => ?_) (fun c88 => ?_)
                · rw [if_neg c88] at h
                  refine lv_aload_n hx hb d_MD_planned_70 rfl (lv_at hl 0 rfl) ?_
                  refine gf_MD_59 C hW.1 d_MD_planned_71 ?_
                  refine lv_aload_n hx hb d_MD_planned_74 rfl (lv_at hl 0 rfl) ?_
                  refine gf_MD_123 C hW.1 d_MD_planned_75 ?_
                  refine lv_iload_n hx hb d_MD_planned_78 rfl (lv_at hl 1 rfl) ?_
                  obtain ⟨hin, h⟩ := gd_some h
                  refine asR_17 C hD hW hin d_MD_planned_79 (fun H locs hW => ?_)
                  obtain ⟨σ89, e_σ89, h⟩ := lt1_some h
                  rw [← e_σ89] at hW
                  refine lv_aload_n hx hb d_MD_planned_80 rfl (lv_at hl 0 rfl) ?_
                  refine gf_MD_62 C hW.1 d_MD_planned_81 ?_
                  refine lv_aload_n hx hb d_MD_planned_84 rfl (lv_at hl 0 rfl) ?_
                  refine gf_MD_123 C hW.1 d_MD_planned_85 ?_
                  refine lv_iload_n hx hb d_MD_planned_88 rfl (lv_at hl 2 rfl) ?_
                  obtain ⟨hin, h⟩ := gd_some h
                  refine asR_18 C hD hW hin d_MD_planned_89 (fun H locs hW => ?_)
                  obtain ⟨σ90, e_σ90, h⟩ := lt1_some h
                  rw [← e_σ90] at hW
                  refine lv_aload_n hx hb d_MD_planned_90 rfl (lv_at hl 0 rfl) ?_
                  refine gf_MD_65 C hW.1 d_MD_planned_91 ?_
                  refine lv_aload_n hx hb d_MD_planned_94 rfl (lv_at hl 0 rfl) ?_
                  refine gf_MD_123 C hW.1 d_MD_planned_95 ?_
                  refine lv_iload_n hx hb d_MD_planned_98 rfl (lv_at hl 3 rfl) ?_
                  obtain ⟨hin, h⟩ := gd_some h
                  refine asR_19 C hD hW hin d_MD_planned_99 (fun H locs hW => ?_)
                  obtain ⟨σ91, e_σ91, h⟩ := lt1_some h
                  rw [← e_σ91] at hW
                  refine lv_aload_n hx hb d_MD_planned_100 rfl (lv_at hl 0 rfl) ?_
                  refine gf_MD_68 C hW.1 d_MD_planned_101 ?_
                  refine lv_aload_n hx hb d_MD_planned_104 rfl (lv_at hl 0 rfl) ?_
                  refine gf_MD_123 C hW.1 d_MD_planned_105 ?_
                  refine lv_iload hx hb d_MD_planned_108 (lv_at hl 4 rfl) ?_
                  obtain ⟨hin, h⟩ := gd_some h
                  refine asR_20 C hD hW hin d_MD_planned_110 (fun H locs hW => ?_)
                  obtain ⟨σ92, e_σ92, h⟩ := lt1_some h
                  rw [← e_σ92] at hW
                  refine lv_aload_n hx hb d_MD_planned_111 rfl (lv_at hl 0 rfl) ?_
                  refine lv_dup hx hb d_MD_planned_112 rfl ?_
                  refine gf_MD_123 C hW.1 d_MD_planned_113 ?_
                  refine lv_iconst (v := 1) hx hb d_MD_planned_116 (by decide) ?_
                  refine lv_iadd hx hb d_MD_planned_117 ?_
                  refine pf_MD_123 C hD hW d_MD_planned_118 (fun H locs hW => ?_)
                  obtain ⟨σ93, e_σ93, h⟩ := lt1_some h
                  rw [← e_σ93] at hW
                  refine lv_aload_n hx hb d_MD_planned_121 rfl (lv_at hl 0 rfl) ?_
                  refine lv_iload_n hx hb d_MD_planned_122 rfl (lv_at hl 2 rfl) ?_
                  refine lv_iload_n hx hb d_MD_planned_123 rfl (lv_at hl 3 rfl) ?_
                  obtain ⟨r94, g_r94, h⟩ := ob_some h
                  refine cl_MD_139 (rest := []) C (hml.trans hl.1.symm) hW.1 g_r94 ⟨Nat.le_of_ble_eq_true rfl, Nat.le_of_ble_eq_true rfl⟩ (Nat.le_of_ble_eq_true rfl) d_MD_planned_124 ⟨Nat.zero_le _, Nat.zero_le _⟩ ?_
                  refine lv_istore (lv' := [(5, .int r94), (0, .ref (ad 0)), (1, .int x1), (2, .int x2), (3, .int x3), (4, .int x4)]) hx hb d_MD_planned_127 hl (by decide) rfl (fun ls hl => ?_)
                  refine lv_iconst (v := 0) hx hb d_MD_planned_129 (by decide) ?_
                  refine lv_istore (lv' := [(6, .int 0), (5, .int r94), (0, .ref (ad 0)), (1, .int x1), (2, .int x2), (3, .int x3), (4, .int x4)]) hx hb d_MD_planned_130 hl (by decide) rfl (fun ls hl => ?_)
                  have k132 : ∀ (n132 : Nat) (x2 : Int32) (x3 : Int32) (x4 : Int32) (x5 : Int32) (x6 : Int32) (σ : Sg) (h : L_MD_planned_132 n132 x2 x3 x4 x5 x6 σ = some out) (H : Heap) (locs : List Loc) (hW : WR G ad cI cZ s σ H locs) (ls : Array Slot) (hl : lv_has ls 7 [(0, .ref (ad 0)), (2, .int x2), (3, .int x3), (4, .int x4), (5, .int x5), (6, .int x6)]), W p l e (headSpec wl_MD_planned ({ frames := 4, cells := 0, slots := 0, locals := 97 } : Room)).room s m (([.ref (ad 0), .int a1, .int a2, .int a3, .int a4] : List Value).toArray) below meth c H locs 0 0 (MQ below (QRi G ad cI cZ out) (([.ref (ad 0), .int a1, .int a2, .int a3, .int a4] : List Value).toArray) s 0 0 (AR ad)) (F0 m 132 ls []) := by
                    intro n132
                    induction n132 with
                    | zero =>
                      intro x2 x3 x4 x5 x6 σ h
                      exact absurd h (by intro z; cases z)
                    | succ n132 ih132 =>
                      intro x2 x3 x4 x5 x6 σ h H locs hW ls hl
                      replace h : B_MD_planned_132 (L_MD_planned_132 n132) x2 x3 x4 x5 x6 σ = some out := h
                      unfold B_MD_planned_132 at h
                      refine lv_iload hx hb d_MD_planned_132 (lv_at hl 5 rfl) ?_
                      refine lv_aload_n hx hb d_MD_planned_134 rfl (lv_at hl 0 rfl) ?_
                      refine gf_MD_123 C hW.1 d_MD_planned_135 ?_
                      refine lv_iconst (v := 1) hx hb d_MD_planned_138 (by decide) ?_
                      refine lv_isub hx hb d_MD_planned_139 ?_
                      refine lv_icmp_ge (tgt := 192) hx hb d_MD_planned_140 (by decide) (fun c95 => ?_) (fun c95 => ?_)
                      · rw [if_pos c95] at h
                        refine lv_aload_n hx hb d_MD_planned_192 rfl (lv_at hl 0 rfl) ?_
                        refine lv_iload hx hb d_MD_planned_193 (lv_at hl 4 rfl) ?_
                        refine lv_if_eq (tgt := 205) hx hb d_MD_planned_195 (by decide) (fun c101 => ?_) (fun c101 => ?_)
                        · rw [if_pos c101] at h
                          refine lv_aload_n hx hb d_MD_planned_205 rfl (lv_at hl 0 rfl) ?_
                          refine gf_MD_123 C hW.1 d_MD_planned_206 ?_
                          refine lv_iconst (v := 1) hx hb d_MD_planned_209 (by decide) ?_
                          refine lv_isub hx hb d_MD_planned_210 ?_
                          refine pf_MD_123 C hD hW d_MD_planned_211 (fun H locs hW => ?_)
                          obtain ⟨σ104, e_σ104, h⟩ := lt1_some h
                          rw [← e_σ104] at hW
                          refine lv_iload hx hb d_MD_planned_214 (lv_at hl 4 rfl) ?_
                          refine lv_if_eq (tgt := 223) hx hb d_MD_planned_216 (by decide) (fun c105 => ?_) (fun c105 => ?_)
                          · rw [if_pos c105] at h
                            refine lv_iconst (v := 1) hx hb d_MD_planned_223 (by decide) ?_
                            exact W.iret hx hb hr (fun t ht _ => qr_i h ht hW) hW.2.2.2 d_MD_planned_224
                          · rw [if_neg c105] at h
                            refine lv_iconst (v := 0) hx hb d_MD_planned_219 (by decide) ?_
                            refine lv_goto (tgt := 224) hx hb d_MD_planned_220 (by decide) ?_
                            exact W.iret hx hb hr (fun t ht _ => qr_i h ht hW) hW.2.2.2 d_MD_planned_224
                        · rw [if_neg c101] at h
                          refine lv_aload_n hx hb d_MD_planned_198 rfl (lv_at hl 0 rfl) ?_
                          refine gf_MD_123 C hW.1 d_MD_planned_199 ?_
                          refine lv_goto (tgt := 211) hx hb d_MD_planned_202 (by decide) ?_
                          refine pf_MD_123 C hD hW d_MD_planned_211 (fun H locs hW => ?_)
                          obtain ⟨σ102, e_σ102, h⟩ := lt1_some h
                          rw [← e_σ102] at hW
                          refine lv_iload hx hb d_MD_planned_214 (lv_at hl 4 rfl) ?_
                          refine lv_if_eq (tgt := 223) hx hb d_MD_planned_216 (by decide) (fun c103 => ?_) (fun c103 => ?_)
                          · rw [if_pos c103] at h
                            refine lv_iconst (v := 1) hx hb d_MD_planned_223 (by decide) ?_
                            exact W.iret hx hb hr (fun t ht _ => qr_i h ht hW) hW.2.2.2 d_MD_planned_224
                          · rw [if_neg c103] at h
                            refine lv_iconst (v := 0) hx hb d_MD_planned_219 (by decide) ?_
                            refine lv_goto (tgt := 224) hx hb d_MD_planned_220 (by decide) ?_
                            exact W.iret hx hb hr (fun t ht _ => qr_i h ht hW) hW.2.2.2 d_MD_planned_224
                      · rw [if_neg c95] at h
                        refine lv_iload hx hb d_MD_planned_143 (lv_at hl 4 rfl) ?_
                        refine lv_if_eq (tgt := 183) hx hb d_MD_planned_145 (by decide) (fun c96 => ?_) (fun c96 => ?_)
                        · rw [if_pos c96] at h
                          refine lv_iconst (v := 0) hx hb d_MD_planned_183 (by decide) ?_
                          refine lv_istore (lv' := [(5, .int 0), (0, .ref (ad 0)), (2, .int x2), (3, .int x3), (4, .int x4), (6, .int x6)]) hx hb d_MD_planned_184 hl (by decide) rfl (fun ls hl => ?_)
                          refine lv_iinc (v := x6 + 1) (lv' := [(6, .int (x6 + 1)), (5, .int 0), (0, .ref (ad 0)), (2, .int x2), (3, .int x3), (4, .int x4)]) hx hb d_MD_planned_186 hl (k := 5) rfl rfl (by decide) rfl (fun ls hl => ?_)
                          refine lv_goto (tgt := 132) hx hb d_MD_planned_189 (by decide) ?_
                          exact ih132 x2 x3 x4 0 (x6 + 1) σ h _ _ hW _ (lv_sub hl [2, 3, 4, 5, 1, 0] rfl)
                        · rw [if_neg c96] at h
                          refine lv_aload_n hx hb d_MD_planned_148 rfl (lv_at hl 0 rfl) ?_
                          refine gf_MD_65 C hW.1 d_MD_planned_149 ?_
                          refine lv_iload hx hb d_MD_planned_152 (lv_at hl 5 rfl) ?_
                          obtain ⟨hin, h⟩ := gd_some h
                          refine alR_19 C hW.1 hin d_MD_planned_154 ?_
                          refine lv_iload_n hx hb d_MD_planned_155 rfl (lv_at hl 2 rfl) ?_
                          refine lv_iload hx hb d_MD_planned_156 (lv_at hl 3 rfl) ?_
                          obtain ⟨r97, g_r97, h⟩ := ob_some h
                          refine cl_MD_98 (rest := []) C (hml.trans hl.1.symm) hW.1 g_r97 ⟨Nat.le_of_ble_eq_true rfl, Nat.le_of_ble_eq_true rfl⟩ (Nat.le_of_ble_eq_true rfl) d_MD_planned_158 ⟨Nat.zero_le _, Nat.zero_le _⟩ ?_
                          refine lv_if_eq (tgt := 179) hx hb d_MD_planned_161 (by decide) (fun c98 => ?_) (fun c98 => ?_)
                          · rw [if_pos c98] at h
                            refine lv_iconst (v := 1) hx hb d_MD_planned_179 (by decide) ?_
                            refine lv_goto (tgt := 184) hx hb d_MD_planned_180 (by decide) ?_
                            refine lv_istore (lv' := [(5, .int 1), (0, .ref (ad 0)), (2, .int x2), (3, .int x3), (4, .int x4), (6, .int x6)]) hx hb d_MD_planned_184 hl (by decide) rfl (fun ls hl => ?_)
                            refine lv_iinc (v := x6 + 1) (lv' := [(6, .int (x6 + 1)), (5, .int 1), (0, .ref (ad 0)), (2, .int x2), (3, .int x3), (4, .int x4)]) hx hb d_MD_planned_186 hl (k := 5) rfl rfl (by decide) rfl (fun ls hl => ?_)
                            refine lv_goto (tgt := 132) hx hb d_MD_planned_189 (by decide) ?_
                            exact ih132 x2 x3 x4 1 (x6 + 1) σ h _ _ hW _ (lv_sub hl [2, 3, 4, 5, 1, 0] rfl)
                          · rw [if_neg c98] at h
                            refine lv_aload_n hx hb d_MD_planned_164 rfl (lv_at hl 0 rfl) ?_
                            refine lv_iload_n hx hb d_MD_planned_165 rfl (lv_at hl 1 rfl) ?_
                            refine lv_aload_n hx hb d_MD_planned_166 rfl (lv_at hl 0 rfl) ?_
                            refine gf_MD_65 C hW.1 d_MD_planned_167 ?_
                            refine lv_iload hx hb d_MD_planned_170 (lv_at hl 5 rfl) ?_
                            obtain ⟨hin, h⟩ := gd_some h
                            refine alR_19 C hW.1 hin d_MD_planned_172 ?_
                            obtain ⟨r99, g_r99, h⟩ := ob_some h
                            refine cl_MD_139 (rest := []) C (hml.trans hl.1.symm) hW.1 g_r99 ⟨Nat.le_of_ble_eq_true rfl, Nat.le_of_ble_eq_true rfl⟩ (Nat.le_of_ble_eq_true rfl) d_MD_planned_173 ⟨Nat.zero_le _, Nat.zero_le _⟩ ?_
                            refine lv_if_eq (tgt := 183) hx hb d_MD_planned_176 (by decide) (fun c100 => ?_) (fun c100 => ?_)
                            · rw [if_pos c100] at h
                              refine lv_iconst (v := 0) hx hb d_MD_planned_183 (by decide) ?_
                              refine lv_istore (lv' := [(5, .int 0), (0, .ref (ad 0)), (2, .int x2), (3, .int x3), (4, .int x4), (6, .int x6)]) hx hb d_MD_planned_184 hl (by decide) rfl (fun ls hl => ?_)
                              refine lv_iinc (v := x6 + 1) (lv' := [(6, .int (x6 + 1)), (5, .int 0), (0, .ref (ad 0)), (2, .int x2), (3, .int x3), (4, .int x4)]) hx hb d_MD_planned_186 hl (k := 5) rfl rfl (by decide) rfl (fun ls hl => ?_)
                              refine lv_goto (tgt := 132) hx hb d_MD_planned_189 (by decide) ?_
                              exact ih132 x2 x3 x4 0 (x6 + 1) σ h _ _ hW _ (lv_sub hl [2, 3, 4, 5, 1, 0] rfl)
                            · rw [if_neg c100] at h
                              refine lv_iconst (v := 1) hx hb d_MD_planned_179 (by decide) ?_
                              refine lv_goto (tgt := 184) hx hb d_MD_planned_180 (by decide) ?_
                              refine lv_istore (lv' := [(5, .int 1), (0, .ref (ad 0)), (2, .int x2), (3, .int x3), (4, .int x4), (6, .int x6)]) hx hb d_MD_planned_184 hl (by decide) rfl (fun ls hl => ?_)
                              refine lv_iinc (v := x6 + 1) (lv' := [(6, .int (x6 + 1)), (5, .int 1), (0, .ref (ad 0)), (2, .int x2), (3, .int x3), (4, .int x4)]) hx hb d_MD_planned_186 hl (k := 5) rfl rfl (by decide) rfl (fun ls hl => ?_)
                              refine lv_goto (tgt := 132) hx hb d_MD_planned_189 (by decide) ?_
                              exact ih132 x2 x3 x4 1 (x6 + 1) σ h _ _ hW _ (lv_sub hl [2, 3, 4, 5, 1, 0] rfl)
                  exact k132 _ x2 x3 x4 r94 0 σ93 h _ _ hW _ (lv_sub hl [2, 4, 5, 6, 1, 0] rfl)
                · rw [if_pos c88] at h
                  refine lv_iconst (v := 0) hx hb d_MD_planned_68 (by decide) ?_
                  exact W.iret hx hb hr (fun t ht _ => qr_i h ht hW) hW.2.2.2 d_MD_planned_69
              exact k62 x1 x2 x3 x4 1 0 s0 σ h _ _ hW _ (lv_sub hl [0, 1, 2, 3, 4] rfl)
          · rw [if_neg c6] at h
            refine lv_iload hx hb d_MD_planned_36 (lv_at hl 4 rfl) ?_
            refine lv_ldc (v := 1000000) hx hb hown (hts _ w_724) d_MD_planned_38 ?_
            refine lv_icmp_gt (tgt := 47) hx hb d_MD_planned_40 (by decide) (fun c7 => ?_) (fun c7 => ?_)
            · rw [if_pos c7] at h
              refine lv_iconst (v := 0) hx hb d_MD_planned_47 (by decide) ?_
              refine lv_aload_n hx hb d_MD_planned_48 rfl (lv_at hl 0 rfl) ?_
              refine gf_MD_123 C hW.1 d_MD_planned_49 ?_
              refine lv_bipush (v := 30) hx hb d_MD_planned_52 (by decide) ?_
              refine lv_icmp_ge (tgt := 61) hx hb d_MD_planned_54 (by decide) (fun c47 => ?_) (fun c47 => ?_)
              · rw [if_pos c47] at h
                refine lv_iconst (v := 0) hx hb d_MD_planned_61 (by decide) ?_
                have k62 : ∀ (x1 : Int32) (x2 : Int32) (x3 : Int32) (x4 : Int32) (s0 : Int32) (s1 : Int32) (s2 : Int32) (σ : Sg) (h : C_MD_planned_62 x1 x2 x3 x4 s0 s1 s2 σ = some out) (H : Heap) (locs : List Loc) (hW : WR G ad cI cZ s σ H locs) (ls : Array Slot) (hl : lv_has ls 7 [(0, .ref (ad 0)), (1, .int x1), (2, .int x2), (3, .int x3), (4, .int x4)]), W p l e (headSpec wl_MD_planned ({ frames := 4, cells := 0, slots := 0, locals := 97 } : Room)).room s m (([.ref (ad 0), .int a1, .int a2, .int a3, .int a4] : List Value).toArray) below meth c H locs 0 0 (MQ below (QRi G ad cI cZ out) (([.ref (ad 0), .int a1, .int a2, .int a3, .int a4] : List Value).toArray) s 0 0 (AR ad)) (F0 m 62 ls [.int s0, .int s1, .int s2, .ref (ad 0)]) := by
                  intro x1 x2 x3 x4 s0 s1 s2 σ h H locs hW ls hl
                  unfold C_MD_planned_62 at h
                  obtain ⟨r67, g_r67, h⟩ := ob_some h
                  refine cl_MD_102 (rest := []) C hD (hml.trans hl.1.symm) hW g_r67 ⟨Nat.le_of_ble_eq_true rfl, Nat.le_of_ble_eq_true rfl⟩ (Nat.le_of_ble_eq_true rfl) d_MD_planned_62 ⟨Nat.zero_le _, Nat.zero_le _⟩ (fun H locs hW => ?_)
                  refine lv_if_ne (tgt := 70) hx hb d_MD_planned_65 (by decide) (fun c68 => ?_) (fun c68 => ?_)
                  · rw [if_neg c68] at h
                    refine lv_aload_n hx hb d_MD_planned_70 rfl (lv_at hl 0 rfl) ?_
                    refine gf_MD_59 C hW.1 d_MD_planned_71 ?_
                    refine lv_aload_n hx hb d_MD_planned_74 rfl (lv_at hl 0 rfl) ?_
                    refine gf_MD_123 C hW.1 d_MD_planned_75 ?_
                    refine lv_iload_n hx hb d_MD_planned_78 rfl (lv_at hl 1 rfl) ?_
                    obtain ⟨hin, h⟩ := gd_some h
                    refine asR_17 C hD hW hin d_MD_planned_79 (fun H locs hW => ?_)
                    obtain ⟨σ69, e_σ69, h⟩ := lt1_some h
                    rw [← e_σ69] at hW
                    refine lv_aload_n hx hb d_MD_planned_80 rfl (lv_at hl 0 rfl) ?_
                    refine gf_MD_62 C hW.1 d_MD_planned_81 ?_
                    refine lv_aload_n hx hb d_MD_planned_84 rfl (lv_at hl 0 rfl) ?_
                    refine gf_MD_123 C hW.1 d_MD_planned_85 ?_
                    refine lv_iload_n hx hb d_MD_planned_88 rfl (lv_at hl 2 rfl) ?_
                    obtain ⟨hin, h⟩ := gd_some h
                    refine asR_18 C hD hW hin d_MD_planned_89 (fun H locs hW => ?_)
                    obtain ⟨σ70, e_σ70, h⟩ := lt1_some h
                    rw [← e_σ70] at hW
                    refine lv_aload_n hx hb d_MD_planned_90 rfl (lv_at hl 0 rfl) ?_
                    refine gf_MD_65 C hW.1 d_MD_planned_91 ?_
                    refine lv_aload_n hx hb d_MD_planned_94 rfl (lv_at hl 0 rfl) ?_
                    refine gf_MD_123 C hW.1 d_MD_planned_95 ?_
                    refine lv_iload_n hx hb d_MD_planned_98 rfl (lv_at hl 3 rfl) ?_
                    obtain ⟨hin, h⟩ := gd_some h
                    refine asR_19 C hD hW hin d_MD_planned_99 (fun H locs hW => ?_)
                    obtain ⟨σ71, e_σ71, h⟩ := lt1_some h
                    rw [← e_σ71] at hW
                    refine lv_aload_n hx hb d_MD_planned_100 rfl (lv_at hl 0 rfl) ?_
                    refine gf_MD_68 C hW.1 d_MD_planned_101 ?_
                    refine lv_aload_n hx hb d_MD_planned_104 rfl (lv_at hl 0 rfl) ?_
                    refine gf_MD_123 C hW.1 d_MD_planned_105 ?_
                    refine lv_iload hx hb d_MD_planned_108 (lv_at hl 4 rfl) ?_
                    obtain ⟨hin, h⟩ := gd_some h
                    refine asR_20 C hD hW hin d_MD_planned_110 (fun H locs hW => ?_)
                    obtain ⟨σ72, e_σ72, h⟩ := lt1_some h
                    rw [← e_σ72] at hW
                    refine lv_aload_n hx hb d_MD_planned_111 rfl (lv_at hl 0 rfl) ?_
                    refine lv_dup hx hb d_MD_planned_112 rfl ?_
                    refine gf_MD_123 C hW.1 d_MD_planned_113 ?_
                    refine lv_iconst (v := 1) hx hb d_MD_planned_116 (by decide) ?_
                    refine lv_iadd hx hb d_MD_planned_117 ?_
                    refine pf_MD_123 C hD hW d_MD_planned_118 (fun H locs hW => ?_)
                    obtain ⟨σ73, e_σ73, h⟩ := lt1_some h
                    rw [← e_σ73] at hW
                    refine lv_aload_n hx hb d_MD_planned_121 rfl (lv_at hl 0 rfl) ?_
                    refine lv_iload_n hx hb d_MD_planned_122 rfl (lv_at hl 2 rfl) ?_
                    refine lv_iload_n hx hb d_MD_planned_123 rfl (lv_at hl 3 rfl) ?_
                    obtain ⟨r74, g_r74, h⟩ := ob_some h
                    refine cl_MD_139 (rest := []) C (hml.trans hl.1.symm) hW.1 g_r74 ⟨Nat.le_of_ble_eq_true rfl, Nat.le_of_ble_eq_true rfl⟩ (Nat.le_of_ble_eq_true rfl) d_MD_planned_124 ⟨Nat.zero_le _, Nat.zero_le _⟩ ?_
                    refine lv_istore (lv' := [(5, .int r74), (0, .ref (ad 0)), (1, .int x1), (2, .int x2), (3, .int x3), (4, .int x4)]) hx hb d_MD_planned_127 hl (by decide) rfl (fun ls hl => ?_)
                    refine lv_iconst (v := 0) hx hb d_MD_planned_129 (by decide) ?_
                    refine lv_istore (lv' := [(6, .int 0), (5, .int r74), (0, .ref (ad 0)), (1, .int x1), (2, .int x2), (3, .int x3), (4, .int x4)]) hx hb d_MD_planned_130 hl (by decide) rfl (fun ls hl => ?_)
                    have k132 : ∀ (n132 : Nat) (x2 : Int32) (x3 : Int32) (x4 : Int32) (x5 : Int32) (x6 : Int32) (σ : Sg) (h : L_MD_planned_132 n132 x2 x3 x4 x5 x6 σ = some out) (H : Heap) (locs : List Loc) (hW : WR G ad cI cZ s σ H locs) (ls : Array Slot) (hl : lv_has ls 7 [(0, .ref (ad 0)), (2, .int x2), (3, .int x3), (4, .int x4), (5, .int x5), (6, .int x6)]), W p l e (headSpec wl_MD_planned ({ frames := 4, cells := 0, slots := 0, locals := 97 } : Room)).room s m (([.ref (ad 0), .int a1, .int a2, .int a3, .int a4] : List Value).toArray) below meth c H locs 0 0 (MQ below (QRi G ad cI cZ out) (([.ref (ad 0), .int a1, .int a2, .int a3, .int a4] : List Value).toArray) s 0 0 (AR ad)) (F0 m 132 ls []) := by
                      intro n132
                      induction n132 with
                      | zero =>
                        intro x2 x3 x4 x5 x6 σ h
                        exact absurd h (by intro z; cases z)
                      | succ n132 ih132 =>
                        intro x2 x3 x4 x5 x6 σ h H locs hW ls hl
                        replace h : B_MD_planned_132 (L_MD_planned_132 n132) x2 x3 x4 x5 x6 σ = some out := h
                        unfold B_MD_planned_132 at h
                        refine lv_iload hx hb d_MD_planned_132 (lv_at hl 5 rfl) ?_
                        refine lv_aload_n hx hb d_MD_planned_134 rfl (lv_at hl 0 rfl) ?_
                        refine gf_MD_123 C hW.1 d_MD_planned_135 ?_
                        refine lv_iconst (v := 1) hx hb d_MD_planned_138 (by decide) ?_
                        refine lv_isub hx hb d_MD_planned_139 ?_
                        refine lv_icmp_ge (tgt := 192) hx hb d_MD_planned_140 (by decide) (fun c75 => ?_) (fun c75 => ?_)
                        · rw [if_pos c75] at h
                          refine lv_aload_n hx hb d_MD_planned_192 rfl (lv_at hl 0 rfl) ?_
                          refine lv_iload hx hb d_MD_planned_193 (lv_at hl 4 rfl) ?_
                          refine lv_if_eq (tgt := 205) hx hb d_MD_planned_195 (by decide) (fun c81 => ?_) (fun c81 => ?_)
                          · rw [if_pos c81] at h
                            refine lv_aload_n hx hb d_MD_planned_205 rfl (lv_at hl 0 rfl) ?_
                            refine gf_MD_123 C hW.1 d_MD_planned_206 ?_
                            refine lv_iconst (v := 1) hx hb d_MD_planned_209 (by decide) ?_
                            refine lv_isub hx hb d_MD_planned_210 ?_
                            refine pf_MD_123 C hD hW d_MD_planned_211 (fun H locs hW => ?_)
                            obtain ⟨σ84, e_σ84, h⟩ := lt1_some h
                            rw [← e_σ84] at hW
                            refine lv_iload hx hb d_MD_planned_214 (lv_at hl 4 rfl) ?_
                            refine lv_if_eq (tgt := 223) hx hb d_MD_planned_216 (by decide) (fun c85 => ?_) (fun c85 => ?_)
                            · rw [if_pos c85] at h
                              refine lv_iconst (v := 1) hx hb d_MD_planned_223 (by decide) ?_
                              exact W.iret hx hb hr (fun t ht _ => qr_i h ht hW) hW.2.2.2 d_MD_planned_224
                            · rw [if_neg c85] at h
                              refine lv_iconst (v := 0) hx hb d_MD_planned_219 (by decide) ?_
                              refine lv_goto (tgt := 224) hx hb d_MD_planned_220 (by decide) ?_
                              exact W.iret hx hb hr (fun t ht _ => qr_i h ht hW) hW.2.2.2 d_MD_planned_224
                          · rw [if_neg c81] at h
                            refine lv_aload_n hx hb d_MD_planned_198 rfl (lv_at hl 0 rfl) ?_
                            refine gf_MD_123 C hW.1 d_MD_planned_199 ?_
                            refine lv_goto (tgt := 211) hx hb d_MD_planned_202 (by decide) ?_
                            refine pf_MD_123 C hD hW d_MD_planned_211 (fun H locs hW => ?_)
                            obtain ⟨σ82, e_σ82, h⟩ := lt1_some h
                            rw [← e_σ82] at hW
                            refine lv_iload hx hb d_MD_planned_214 (lv_at hl 4 rfl) ?_
                            refine lv_if_eq (tgt := 223) hx hb d_MD_planned_216 (by decide) (fun c83 => ?_) (fun c83 => ?_)
                            · rw [if_pos c83] at h
                              refine lv_iconst (v := 1) hx hb d_MD_planned_223 (by decide) ?_
                              exact W.iret hx hb hr (fun t ht _ => qr_i h ht hW) hW.2.2.2 d_MD_planned_224
                            · rw [if_neg c83] at h
                              refine lv_iconst (v := 0) hx hb d_MD_planned_219 (by decide) ?_
                              refine lv_goto (tgt := 224) hx hb d_MD_planned_220 (by decide) ?_
                              exact W.iret hx hb hr (fun t ht _ => qr_i h ht hW) hW.2.2.2 d_MD_planned_224
                        · rw [if_neg c75] at h
                          refine lv_iload hx hb d_MD_planned_143 (lv_at hl 4 rfl) ?_
                          refine lv_if_eq (tgt := 183) hx hb d_MD_planned_145 (by decide) (fun c76 => ?_) (fun c76 => ?_)
                          · rw [if_pos c76] at h
                            refine lv_iconst (v := 0) hx hb d_MD_planned_183 (by decide) ?_
                            refine lv_istore (lv' := [(5, .int 0), (0, .ref (ad 0)), (2, .int x2), (3, .int x3), (4, .int x4), (6, .int x6)]) hx hb d_MD_planned_184 hl (by decide) rfl (fun ls hl => ?_)
                            refine lv_iinc (v := x6 + 1) (lv' := [(6, .int (x6 + 1)), (5, .int 0), (0, .ref (ad 0)), (2, .int x2), (3, .int x3), (4, .int x4)]) hx hb d_MD_planned_186 hl (k := 5) rfl rfl (by decide) rfl (fun ls hl => ?_)
                            refine lv_goto (tgt := 132) hx hb d_MD_planned_189 (by decide) ?_
                            exact ih132 x2 x3 x4 0 (x6 + 1) σ h _ _ hW _ (lv_sub hl [2, 3, 4, 5, 1, 0] rfl)
                          · rw [if_neg c76] at h
                            refine lv_aload_n hx hb d_MD_planned_148 rfl (lv_at hl 0 rfl) ?_
                            refine gf_MD_65 C hW.1 d_MD_planned_149 ?_
                            refine lv_iload hx hb d_MD_planned_152 (lv_at hl 5 rfl) ?_
                            obtain ⟨hin, h⟩ := gd_some h
                            refine alR_19 C hW.1 hin d_MD_planned_154 ?_
                            refine lv_iload_n hx hb d_MD_planned_155 rfl (lv_at hl 2 rfl) ?_
                            refine lv_iload hx hb d_MD_planned_156 (lv_at hl 3 rfl) ?_
                            obtain ⟨r77, g_r77, h⟩ := ob_some h
                            refine cl_MD_98 (rest := []) C (hml.trans hl.1.symm) hW.1 g_r77 ⟨Nat.le_of_ble_eq_true rfl, Nat.le_of_ble_eq_true rfl⟩ (Nat.le_of_ble_eq_true rfl) d_MD_planned_158 ⟨Nat.zero_le _, Nat.zero_le _⟩ ?_
                            refine lv_if_eq (tgt := 179) hx hb d_MD_planned_161 (by decide) (fun c78 => ?_) (fun c78 => ?_)
                            · rw [if_pos c78] at h
                              refine lv_iconst (v := 1) hx hb d_MD_planned_179 (by decide) ?_
                              refine lv_goto (tgt := 184) hx hb d_MD_planned_180 (by decide) ?_
                              refine lv_istore (lv' := [(5, .int 1), (0, .ref (ad 0)), (2, .int x2), (3, .int x3), (4, .int x4), (6, .int x6)]) hx hb d_MD_planned_184 hl (by decide) rfl (fun ls hl => ?_)
                              refine lv_iinc (v := x6 + 1) (lv' := [(6, .int (x6 + 1)), (5, .int 1), (0, .ref (ad 0)), (2, .int x2), (3, .int x3), (4, .int x4)]) hx hb d_MD_planned_186 hl (k := 5) rfl rfl (by decide) rfl (fun ls hl => ?_)
                              refine lv_goto (tgt := 132) hx hb d_MD_planned_189 (by decide) ?_
                              exact ih132 x2 x3 x4 1 (x6 + 1) σ h _ _ hW _ (lv_sub hl [2, 3, 4, 5, 1, 0] rfl)
                            · rw [if_neg c78] at h
                              refine lv_aload_n hx hb d_MD_planned_164 rfl (lv_at hl 0 rfl) ?_
                              refine lv_iload_n hx hb d_MD_planned_165 rfl (lv_at hl 1 rfl) ?_
                              refine lv_aload_n hx hb d_MD_planned_166 rfl (lv_at hl 0 rfl) ?_
                              refine gf_MD_65 C hW.1 d_MD_planned_167 ?_
                              refine lv_iload hx hb d_MD_planned_170 (lv_at hl 5 rfl) ?_
                              obtain ⟨hin, h⟩ := gd_some h
                              refine alR_19 C hW.1 hin d_MD_planned_172 ?_
                              obtain ⟨r79, g_r79, h⟩ := ob_some h
                              refine cl_MD_139 (rest := []) C (hml.trans hl.1.symm) hW.1 g_r79 ⟨Nat.le_of_ble_eq_true rfl, Nat.le_of_ble_eq_true rfl⟩ (Nat.le_of_ble_eq_true rfl) d_MD_planned_173 ⟨Nat.zero_le _, Nat.zero_le _⟩ ?_
                              refine lv_if_eq (tgt := 183) hx hb d_MD_planned_176 (by decide) (fun c80 => ?_) (fun c80 => ?_)
                              · rw [if_pos c80] at h
                                refine lv_iconst (v := 0) hx hb d_MD_planned_183 (by decide) ?_
                                refine lv_istore (lv' := [(5, .int 0), (0, .ref (ad 0)), (2, .int x2), (3, .int x3), (4, .int x4), (6, .int x6)]) hx hb d_MD_planned_184 hl (by decide) rfl (fun ls hl => ?_)
                                refine lv_iinc (v := x6 + 1) (lv' := [(6, .int (x6 + 1)), (5, .int 0), (0, .ref (ad 0)), (2, .int x2), (3, .int x3), (4, .int x4)]) hx hb d_MD_planned_186 hl (k := 5) rfl rfl (by decide) rfl (fun ls hl => ?_)
                                refine lv_goto (tgt := 132) hx hb d_MD_planned_189 (by decide) ?_
                                exact ih132 x2 x3 x4 0 (x6 + 1) σ h _ _ hW _ (lv_sub hl [2, 3, 4, 5, 1, 0] rfl)
                              · rw [if_neg c80] at h
                                refine lv_iconst (v := 1) hx hb d_MD_planned_179 (by decide) ?_
                                refine lv_goto (tgt := 184) hx hb d_MD_planned_180 (by decide) ?_
                                refine lv_istore (lv' := [(5, .int 1), (0, .ref (ad 0)), (2, .int x2), (3, .int x3), (4, .int x4), (6, .int x6)]) hx hb d_MD_planned_184 hl (by decide) rfl (fun ls hl => ?_)
                                refine lv_iinc (v := x6 + 1) (lv' := [(6, .int (x6 + 1)), (5, .int 1), (0, .ref (ad 0)), (2, .int x2), (3, .int x3), (4, .int x4)]) hx hb d_MD_planned_186 hl (k := 5) rfl rfl (by decide) rfl (fun ls hl => ?_)
                                refine lv_goto (tgt := 132) hx hb d_MD_planned_189 (by decide) ?_
                                exact ih132 x2 x3 x4 1 (x6 + 1) σ h _ _ hW _ (lv_sub hl [2, 3, 4, 5, 1, 0] rfl)
                    exact k132 _ x2 x3 x4 r74 0 σ73 h _ _ hW _ (lv_sub hl [2, 4, 5, 6, 1, 0] rfl)
                  · rw [if_pos c68] at h
                    refine lv_iconst (v := 0) hx hb d_MD_planned_68 (by decide) ?_
                    exact W.iret hx hb hr (fun t ht _ => qr_i h ht hW) hW.2.2.2 d_MD_planned_69
                exact k62 x1 x2 x3 x4 0 0 s0 σ h _ _ hW _ (lv_sub hl [0, 1, 2, 3, 4] rfl)
              · rw [if_neg c47] at h
                refine lv_iconst (v := 1) hx hb d_MD_planned_57 (by decide) ?_
                refine lv_goto (tgt := 62) hx hb d_MD_planned_58 (by decide) ?_
                have k62 : ∀ (x1 : Int32) (x2 : Int32) (x3 : Int32) (x4 : Int32) (s0 : Int32) (s1 : Int32) (s2 : Int32) (σ : Sg) (h : C_MD_planned_62 x1 x2 x3 x4 s0 s1 s2 σ = some out) (H : Heap) (locs : List Loc) (hW : WR G ad cI cZ s σ H locs) (ls : Array Slot) (hl : lv_has ls 7 [(0, .ref (ad 0)), (1, .int x1), (2, .int x2), (3, .int x3), (4, .int x4)]), W p l e (headSpec wl_MD_planned ({ frames := 4, cells := 0, slots := 0, locals := 97 } : Room)).room s m (([.ref (ad 0), .int a1, .int a2, .int a3, .int a4] : List Value).toArray) below meth c H locs 0 0 (MQ below (QRi G ad cI cZ out) (([.ref (ad 0), .int a1, .int a2, .int a3, .int a4] : List Value).toArray) s 0 0 (AR ad)) (F0 m 62 ls [.int s0, .int s1, .int s2, .ref (ad 0)]) := by
                  intro x1 x2 x3 x4 s0 s1 s2 σ h H locs hW ls hl
                  unfold C_MD_planned_62 at h
                  obtain ⟨r48, g_r48, h⟩ := ob_some h
                  refine cl_MD_102 (rest := []) C hD (hml.trans hl.1.symm) hW g_r48 ⟨Nat.le_of_ble_eq_true rfl, Nat.le_of_ble_eq_true rfl⟩ (Nat.le_of_ble_eq_true rfl) d_MD_planned_62 ⟨Nat.zero_le _, Nat.zero_le _⟩ (fun H locs hW => ?_)
                  refine lv_if_ne (tgt := 70) hx hb d_MD_planned_65 (by decide) (fun c49 => ?_) (fun c49 => ?_)
                  · rw [if_neg c49] at h
                    refine lv_aload_n hx hb d_MD_planned_70 rfl (lv_at hl 0 rfl) ?_
                    refine gf_MD_59 C hW.1 d_MD_planned_71 ?_
                    refine lv_aload_n hx hb d_MD_planned_74 rfl (lv_at hl 0 rfl) ?_
                    refine gf_MD_123 C hW.1 d_MD_planned_75 ?_
                    refine lv_iload_n hx hb d_MD_planned_78 rfl (lv_at hl 1 rfl) ?_
                    obtain ⟨hin, h⟩ := gd_some h
                    refine asR_17 C hD hW hin d_MD_planned_79 (fun H locs hW => ?_)
                    obtain ⟨σ50, e_σ50, h⟩ := lt1_some h
                    rw [← e_σ50] at hW
                    refine lv_aload_n hx hb d_MD_planned_80 rfl (lv_at hl 0 rfl) ?_
                    refine gf_MD_62 C hW.1 d_MD_planned_81 ?_
                    refine lv_aload_n hx hb d_MD_planned_84 rfl (lv_at hl 0 rfl) ?_
                    refine gf_MD_123 C hW.1 d_MD_planned_85 ?_
                    refine lv_iload_n hx hb d_MD_planned_88 rfl (lv_at hl 2 rfl) ?_
                    obtain ⟨hin, h⟩ := gd_some h
                    refine asR_18 C hD hW hin d_MD_planned_89 (fun H locs hW => ?_)
                    obtain ⟨σ51, e_σ51, h⟩ := lt1_some h
                    rw [← e_σ51] at hW
                    refine lv_aload_n hx hb d_MD_planned_90 rfl (lv_at hl 0 rfl) ?_
                    refine gf_MD_65 C hW.1 d_MD_planned_91 ?_
                    refine lv_aload_n hx hb d_MD_planned_94 rfl (lv_at hl 0 rfl) ?_
                    refine gf_MD_123 C hW.1 d_MD_planned_95 ?_
                    refine lv_iload_n hx hb d_MD_planned_98 rfl (lv_at hl 3 rfl) ?_
                    obtain ⟨hin, h⟩ := gd_some h
                    refine asR_19 C hD hW hin d_MD_planned_99 (fun H locs hW => ?_)
                    obtain ⟨σ52, e_σ52, h⟩ := lt1_some h
                    rw [← e_σ52] at hW
                    refine lv_aload_n hx hb d_MD_planned_100 rfl (lv_at hl 0 rfl) ?_
                    refine gf_MD_68 C hW.1 d_MD_planned_101 ?_
                    refine lv_aload_n hx hb d_MD_planned_104 rfl (lv_at hl 0 rfl) ?_
                    refine gf_MD_123 C hW.1 d_MD_planned_105 ?_
                    refine lv_iload hx hb d_MD_planned_108 (lv_at hl 4 rfl) ?_
                    obtain ⟨hin, h⟩ := gd_some h
                    refine asR_20 C hD hW hin d_MD_planned_110 (fun H locs hW => ?_)
                    obtain ⟨σ53, e_σ53, h⟩ := lt1_some h
                    rw [← e_σ53] at hW
                    refine lv_aload_n hx hb d_MD_planned_111 rfl (lv_at hl 0 rfl) ?_
                    refine lv_dup hx hb d_MD_planned_112 rfl ?_
                    refine gf_MD_123 C hW.1 d_MD_planned_113 ?_
                    refine lv_iconst (v := 1) hx hb d_MD_planned_116 (by decide) ?_
                    refine lv_iadd hx hb d_MD_planned_117 ?_
                    refine pf_MD_123 C hD hW d_MD_planned_118 (fun H locs hW => ?_)
                    obtain ⟨σ54, e_σ54, h⟩ := lt1_some h
                    rw [← e_σ54] at hW
                    refine lv_aload_n hx hb d_MD_planned_121 rfl (lv_at hl 0 rfl) ?_
                    refine lv_iload_n hx hb d_MD_planned_122 rfl (lv_at hl 2 rfl) ?_
                    refine lv_iload_n hx hb d_MD_planned_123 rfl (lv_at hl 3 rfl) ?_
                    obtain ⟨r55, g_r55, h⟩ := ob_some h
                    refine cl_MD_139 (rest := []) C (hml.trans hl.1.symm) hW.1 g_r55 ⟨Nat.le_of_ble_eq_true rfl, Nat.le_of_ble_eq_true rfl⟩ (Nat.le_of_ble_eq_true rfl) d_MD_planned_124 ⟨Nat.zero_le _, Nat.zero_le _⟩ ?_
                    refine lv_istore (lv' := [(5, .int r55), (0, .ref (ad 0)), (1, .int x1), (2, .int x2), (3, .int x3), (4, .int x4)]) hx hb d_MD_planned_127 hl (by decide) rfl (fun ls hl => ?_)
                    refine lv_iconst (v := 0) hx hb d_MD_planned_129 (by decide) ?_
                    refine lv_istore (lv' := [(6, .int 0), (5, .int r55), (0, .ref (ad 0)), (1, .int x1), (2, .int x2), (3, .int x3), (4, .int x4)]) hx hb d_MD_planned_130 hl (by decide) rfl (fun ls hl => ?_)
                    have k132 : ∀ (n132 : Nat) (x2 : Int32) (x3 : Int32) (x4 : Int32) (x5 : Int32) (x6 : Int32) (σ : Sg) (h : L_MD_planned_132 n132 x2 x3 x4 x5 x6 σ = some out) (H : Heap) (locs : List Loc) (hW : WR G ad cI cZ s σ H locs) (ls : Array Slot) (hl : lv_has ls 7 [(0, .ref (ad 0)), (2, .int x2), (3, .int x3), (4, .int x4), (5, .int x5), (6, .int x6)]), W p l e (headSpec wl_MD_planned ({ frames := 4, cells := 0, slots := 0, locals := 97 } : Room)).room s m (([.ref (ad 0), .int a1, .int a2, .int a3, .int a4] : List Value).toArray) below meth c H locs 0 0 (MQ below (QRi G ad cI cZ out) (([.ref (ad 0), .int a1, .int a2, .int a3, .int a4] : List Value).toArray) s 0 0 (AR ad)) (F0 m 132 ls []) := by
                      intro n132
                      induction n132 with
                      | zero =>
                        intro x2 x3 x4 x5 x6 σ h
                        exact absurd h (by intro z; cases z)
                      | succ n132 ih132 =>
                        intro x2 x3 x4 x5 x6 σ h H locs hW ls hl
                        replace h : B_MD_planned_132 (L_MD_planned_132 n132) x2 x3 x4 x5 x6 σ = some out := h
                        unfold B_MD_planned_132 at h
                        refine lv_iload hx hb d_MD_planned_132 (lv_at hl 5 rfl) ?_
                        refine lv_aload_n hx hb d_MD_planned_134 rfl (lv_at hl 0 rfl) ?_
                        refine gf_MD_123 C hW.1 d_MD_planned_135 ?_
                        refine lv_iconst (v := 1) hx hb d_MD_planned_138 (by decide) ?_
                        refine lv_isub hx hb d_MD_planned_139 ?_
                        refine lv_icmp_ge (tgt := 192) hx hb d_MD_planned_140 (by decide) (fun c56 => ?_) (fun c56 => ?_)
                        · rw [if_pos c56] at h
                          refine lv_aload_n hx hb d_MD_planned_192 rfl (lv_at hl 0 rfl) ?_
                          refine lv_iload hx hb d_MD_planned_193 (lv_at hl 4 rfl) ?_
                          refine lv_if_eq (tgt := 205) hx hb d_MD_planned_195 (by decide) (fun c62 => ?_) (fun c62 => ?_)
                          · rw [if_pos c62] at h
                            refine lv_aload_n hx hb d_MD_planned_205 rfl (lv_at hl 0 rfl) ?_
                            refine gf_MD_123 C hW.1 d_MD_planned_206 ?_
                            refine lv_iconst (v := 1) hx hb d_MD_planned_209 (by decide) ?_
                            refine lv_isub hx hb d_MD_planned_210 ?_
                            refine pf_MD_123 C hD hW d_MD_planned_211 (fun H locs hW => ?_)
                            obtain ⟨σ65, e_σ65, h⟩ := lt1_some h
                            rw [← e_σ65] at hW
                            refine lv_iload hx hb d_MD_planned_214 (lv_at hl 4 rfl) ?_
                            refine lv_if_eq (tgt := 223) hx hb d_MD_planned_216 (by decide) (fun c66 => ?_) (fun c66 => ?_)
                            · rw [if_pos c66] at h
                              refine lv_iconst (v := 1) hx hb d_MD_planned_223 (by decide) ?_
                              exact W.iret hx hb hr (fun t ht _ => qr_i h ht hW) hW.2.2.2 d_MD_planned_224
                            · rw [if_neg c66] at h
                              refine lv_iconst (v := 0) hx hb d_MD_planned_219 (by decide) ?_
                              refine lv_goto (tgt := 224) hx hb d_MD_planned_220 (by decide) ?_
                              exact W.iret hx hb hr (fun t ht _ => qr_i h ht hW) hW.2.2.2 d_MD_planned_224
                          · rw [if_neg c62] at h
                            refine lv_aload_n hx hb d_MD_planned_198 rfl (lv_at hl 0 rfl) ?_
                            refine gf_MD_123 C hW.1 d_MD_planned_199 ?_
                            refine lv_goto (tgt := 211) hx hb d_MD_planned_202 (by decide) ?_
                            refine pf_MD_123 C hD hW d_MD_planned_211 (fun H locs hW => ?_)
                            obtain ⟨σ63, e_σ63, h⟩ := lt1_some h
                            rw [← e_σ63] at hW
                            refine lv_iload hx hb d_MD_planned_214 (lv_at hl 4 rfl) ?_
                            refine lv_if_eq (tgt := 223) hx hb d_MD_planned_216 (by decide) (fun c64 => ?_) (fun c64 => ?_)
                            · rw [if_pos c64] at h
                              refine lv_iconst (v := 1) hx hb d_MD_planned_223 (by decide) ?_
                              exact W.iret hx hb hr (fun t ht _ => qr_i h ht hW) hW.2.2.2 d_MD_planned_224
                            · rw [if_neg c64] at h
                              refine lv_iconst (v := 0) hx hb d_MD_planned_219 (by decide) ?_
                              refine lv_goto (tgt := 224) hx hb d_MD_planned_220 (by decide) ?_
                              exact W.iret hx hb hr (fun t ht _ => qr_i h ht hW) hW.2.2.2 d_MD_planned_224
                        · rw [if_neg c56] at h
                          refine lv_iload hx hb d_MD_planned_143 (lv_at hl 4 rfl) ?_
                          refine lv_if_eq (tgt := 183) hx hb d_MD_planned_145 (by decide) (fun c57 => ?_) (fun c57 => ?_)
                          · rw [if_pos c57] at h
                            refine lv_iconst (v := 0) hx hb d_MD_planned_183 (by decide) ?_
                            refine lv_istore (lv' := [(5, .int 0), (0, .ref (ad 0)), (2, .int x2), (3, .int x3), (4, .int x4), (6, .int x6)]) hx hb d_MD_planned_184 hl (by decide) rfl (fun ls hl => ?_)
                            refine lv_iinc (v := x6 + 1) (lv' := [(6, .int (x6 + 1)), (5, .int 0), (0, .ref (ad 0)), (2, .int x2), (3, .int x3), (4, .int x4)]) hx hb d_MD_planned_186 hl (k := 5) rfl rfl (by decide) rfl (fun ls hl => ?_)
                            refine lv_goto (tgt := 132) hx hb d_MD_planned_189 (by decide) ?_
                            exact ih132 x2 x3 x4 0 (x6 + 1) σ h _ _ hW _ (lv_sub hl [2, 3, 4, 5, 1, 0] rfl)
                          · rw [if_neg c57] at h
                            refine lv_aload_n hx hb d_MD_planned_148 rfl (lv_at hl 0 rfl) ?_
                            refine gf_MD_65 C hW.1 d_MD_planned_149 ?_
                            refine lv_iload hx hb d_MD_planned_152 (lv_at hl 5 rfl) ?_
                            obtain ⟨hin, h⟩ := gd_some h
                            refine alR_19 C hW.1 hin d_MD_planned_154 ?_
                            refine lv_iload_n hx hb d_MD_planned_155 rfl (lv_at hl 2 rfl) ?_
                            refine lv_iload hx hb d_MD_planned_156 (lv_at hl 3 rfl) ?_
                            obtain ⟨r58, g_r58, h⟩ := ob_some h
                            refine cl_MD_98 (rest := []) C (hml.trans hl.1.symm) hW.1 g_r58 ⟨Nat.le_of_ble_eq_true rfl, Nat.le_of_ble_eq_true rfl⟩ (Nat.le_of_ble_eq_true rfl) d_MD_planned_158 ⟨Nat.zero_le _, Nat.zero_le _⟩ ?_
                            refine lv_if_eq (tgt := 179) hx hb d_MD_planned_161 (by decide) (fun c59 => ?_) (fun c59 => ?_)
                            · rw [if_pos c59] at h
                              refine lv_iconst (v := 1) hx hb d_MD_planned_179 (by decide) ?_
                              refine lv_goto (tgt := 184) hx hb d_MD_planned_180 (by decide) ?_
                              refine lv_istore (lv' := [(5, .int 1), (0, .ref (ad 0)), (2, .int x2), (3, .int x3), (4, .int x4), (6, .int x6)]) hx hb d_MD_planned_184 hl (by decide) rfl (fun ls hl => ?_)
                              refine lv_iinc (v := x6 + 1) (lv' := [(6, .int (x6 + 1)), (5, .int 1), (0, .ref (ad 0)), (2, .int x2), (3, .int x3), (4, .int x4)]) hx hb d_MD_planned_186 hl (k := 5) rfl rfl (by decide) rfl (fun ls hl => ?_)
                              refine lv_goto (tgt := 132) hx hb d_MD_planned_189 (by decide) ?_
                              exact ih132 x2 x3 x4 1 (x6 + 1) σ h _ _ hW _ (lv_sub hl [2, 3, 4, 5, 1, 0] rfl)
                            · rw [if_neg c59] at h
                              refine lv_aload_n hx hb d_MD_planned_164 rfl (lv_at hl 0 rfl) ?_
                              refine lv_iload_n hx hb d_MD_planned_165 rfl (lv_at hl 1 rfl) ?_
                              refine lv_aload_n hx hb d_MD_planned_166 rfl (lv_at hl 0 rfl) ?_
                              refine gf_MD_65 C hW.1 d_MD_planned_167 ?_
                              refine lv_iload hx hb d_MD_planned_170 (lv_at hl 5 rfl) ?_
                              obtain ⟨hin, h⟩ := gd_some h
                              refine alR_19 C hW.1 hin d_MD_planned_172 ?_
                              obtain ⟨r60, g_r60, h⟩ := ob_some h
                              refine cl_MD_139 (rest := []) C (hml.trans hl.1.symm) hW.1 g_r60 ⟨Nat.le_of_ble_eq_true rfl, Nat.le_of_ble_eq_true rfl⟩ (Nat.le_of_ble_eq_true rfl) d_MD_planned_173 ⟨Nat.zero_le _, Nat.zero_le _⟩ ?_
                              refine lv_if_eq (tgt := 183) hx hb d_MD_planned_176 (by decide) (fun c61 => ?_) (fun c61 => ?_)
                              · rw [if_pos c61] at h
                                refine lv_iconst (v := 0) hx hb d_MD_planned_183 (by decide) ?_
                                refine lv_istore (lv' := [(5, .int 0), (0, .ref (ad 0)), (2, .int x2), (3, .int x3), (4, .int x4), (6, .int x6)]) hx hb d_MD_planned_184 hl (by decide) rfl (fun ls hl => ?_)
                                refine lv_iinc (v := x6 + 1) (lv' := [(6, .int (x6 + 1)), (5, .int 0), (0, .ref (ad 0)), (2, .int x2), (3, .int x3), (4, .int x4)]) hx hb d_MD_planned_186 hl (k := 5) rfl rfl (by decide) rfl (fun ls hl => ?_)
                                refine lv_goto (tgt := 132) hx hb d_MD_planned_189 (by decide) ?_
                                exact ih132 x2 x3 x4 0 (x6 + 1) σ h _ _ hW _ (lv_sub hl [2, 3, 4, 5, 1, 0] rfl)
                              · rw [if_neg c61] at h
                                refine lv_iconst (v := 1) hx hb d_MD_planned_179 (by decide) ?_
                                refine lv_goto (tgt := 184) hx hb d_MD_planned_180 (by decide) ?_
                                refine lv_istore (lv' := [(5, .int 1), (0, .ref (ad 0)), (2, .int x2), (3, .int x3), (4, .int x4), (6, .int x6)]) hx hb d_MD_planned_184 hl (by decide) rfl (fun ls hl => ?_)
                                refine lv_iinc (v := x6 + 1) (lv' := [(6, .int (x6 + 1)), (5, .int 1), (0, .ref (ad 0)), (2, .int x2), (3, .int x3), (4, .int x4)]) hx hb d_MD_planned_186 hl (k := 5) rfl rfl (by decide) rfl (fun ls hl => ?_)
                                refine lv_goto (tgt := 132) hx hb d_MD_planned_189 (by decide) ?_
                                exact ih132 x2 x3 x4 1 (x6 + 1) σ h _ _ hW _ (lv_sub hl [2, 3, 4, 5, 1, 0] rfl)
                    exact k132 _ x2 x3 x4 r55 0 σ54 h _ _ hW _ (lv_sub hl [2, 4, 5, 6, 1, 0] rfl)
                  · rw [if_pos c49] at h
                    refine lv_iconst (v := 0) hx hb d_MD_planned_68 (by decide) ?_
                    exact W.iret hx hb hr (fun t ht _ => qr_i h ht hW) hW.2.2.2 d_MD_planned_69
                exact k62 x1 x2 x3 x4 1 0 s0 σ h _ _ hW _ (lv_sub hl [0, 1, 2, 3, 4] rfl)
            · rw [if_neg c7] at h
              refine lv_iconst (v := 1) hx hb d_MD_planned_43 (by decide) ?_
              refine lv_goto (tgt := 48) hx hb d_MD_planned_44 (by decide) ?_
              refine lv_aload_n hx hb d_MD_planned_48 rfl (lv_at hl 0 rfl) ?_
              refine gf_MD_123 C hW.1 d_MD_planned_49 ?_
              refine lv_bipush (v := 30) hx hb d_MD_planned_52 (by decide) ?_
              refine lv_icmp_ge (tgt := 61) hx hb d_MD_planned_54 (by decide) (fun c8 => ?_) (fun c8 => ?_)
              · rw [if_pos c8] at h
                refine lv_iconst (v := 0) hx hb d_MD_planned_61 (by decide) ?_
                have k62 : ∀ (x1 : Int32) (x2 : Int32) (x3 : Int32) (x4 : Int32) (s0 : Int32) (s1 : Int32) (s2 : Int32) (σ : Sg) (h : C_MD_planned_62 x1 x2 x3 x4 s0 s1 s2 σ = some out) (H : Heap) (locs : List Loc) (hW : WR G ad cI cZ s σ H locs) (ls : Array Slot) (hl : lv_has ls 7 [(0, .ref (ad 0)), (1, .int x1), (2, .int x2), (3, .int x3), (4, .int x4)]), W p l e (headSpec wl_MD_planned ({ frames := 4, cells := 0, slots := 0, locals := 97 } : Room)).room s m (([.ref (ad 0), .int a1, .int a2, .int a3, .int a4] : List Value).toArray) below meth c H locs 0 0 (MQ below (QRi G ad cI cZ out) (([.ref (ad 0), .int a1, .int a2, .int a3, .int a4] : List Value).toArray) s 0 0 (AR ad)) (F0 m 62 ls [.int s0, .int s1, .int s2, .ref (ad 0)]) := by
                  intro x1 x2 x3 x4 s0 s1 s2 σ h H locs hW ls hl
                  unfold C_MD_planned_62 at h
                  obtain ⟨r28, g_r28, h⟩ := ob_some h
                  refine cl_MD_102 (rest := []) C hD (hml.trans hl.1.symm) hW g_r28 ⟨Nat.le_of_ble_eq_true rfl, Nat.le_of_ble_eq_true rfl⟩ (Nat.le_of_ble_eq_true rfl) d_MD_planned_62 ⟨Nat.zero_le _, Nat.zero_le _⟩ (fun H locs hW => ?_)
                  refine lv_if_ne (tgt := 70) hx hb d_MD_planned_65 (by decide) (fun c29 => ?_) (fun c29 => ?_)
                  · rw [if_neg c29] at h
                    refine lv_aload_n hx hb d_MD_planned_70 rfl (lv_at hl 0 rfl) ?_
                    refine gf_MD_59 C hW.1 d_MD_planned_71 ?_
                    refine lv_aload_n hx hb d_MD_planned_74 rfl (lv_at hl 0 rfl) ?_
                    refine gf_MD_123 C hW.1 d_MD_planned_75 ?_
                    refine lv_iload_n hx hb d_MD_planned_78 rfl (lv_at hl 1 rfl) ?_
                    obtain ⟨hin, h⟩ := gd_some h
                    refine asR_17 C hD hW hin d_MD_planned_79 (fun H locs hW => ?_)
                    obtain ⟨σ30, e_σ30, h⟩ := lt1_some h
                    rw [← e_σ30] at hW
                    refine lv_aload_n hx hb d_MD_planned_80 rfl (lv_at hl 0 rfl) ?_
                    refine gf_MD_62 C hW.1 d_MD_planned_81 ?_
                    refine lv_aload_n hx hb d_MD_planned_84 rfl (lv_at hl 0 rfl) ?_
                    refine gf_MD_123 C hW.1 d_MD_planned_85 ?_
                    refine lv_iload_n hx hb d_MD_planned_88 rfl (lv_at hl 2 rfl) ?_
                    obtain ⟨hin, h⟩ := gd_some h
                    refine asR_18 C hD hW hin d_MD_planned_89 (fun H locs hW => ?_)
                    obtain ⟨σ31, e_σ31, h⟩ := lt1_some h
                    rw [← e_σ31] at hW
                    refine lv_aload_n hx hb d_MD_planned_90 rfl (lv_at hl 0 rfl) ?_
                    refine gf_MD_65 C hW.1 d_MD_planned_91 ?_
                    refine lv_aload_n hx hb d_MD_planned_94 rfl (lv_at hl 0 rfl) ?_
                    refine gf_MD_123 C hW.1 d_MD_planned_95 ?_
                    refine lv_iload_n hx hb d_MD_planned_98 rfl (lv_at hl 3 rfl) ?_
                    obtain ⟨hin, h⟩ := gd_some h
                    refine asR_19 C hD hW hin d_MD_planned_99 (fun H locs hW => ?_)
                    obtain ⟨σ32, e_σ32, h⟩ := lt1_some h
                    rw [← e_σ32] at hW
                    refine lv_aload_n hx hb d_MD_planned_100 rfl (lv_at hl 0 rfl) ?_
                    refine gf_MD_68 C hW.1 d_MD_planned_101 ?_
                    refine lv_aload_n hx hb d_MD_planned_104 rfl (lv_at hl 0 rfl) ?_
                    refine gf_MD_123 C hW.1 d_MD_planned_105 ?_
                    refine lv_iload hx hb d_MD_planned_108 (lv_at hl 4 rfl) ?_
                    obtain ⟨hin, h⟩ := gd_some h
                    refine asR_20 C hD hW hin d_MD_planned_110 (fun H locs hW => ?_)
                    obtain ⟨σ33, e_σ33, h⟩ := lt1_some h
                    rw [← e_σ33] at hW
                    refine lv_aload_n hx hb d_MD_planned_111 rfl (lv_at hl 0 rfl) ?_
                    refine lv_dup hx hb d_MD_planned_112 rfl ?_
                    refine gf_MD_123 C hW.1 d_MD_planned_113 ?_
                    refine lv_iconst (v := 1) hx hb d_MD_planned_116 (by decide) ?_
                    refine lv_iadd hx hb d_MD_planned_117 ?_
                    refine pf_MD_123 C hD hW d_MD_planned_118 (fun H locs hW => ?_)
                    obtain ⟨σ34, e_σ34, h⟩ := lt1_some h
                    rw [← e_σ34] at hW
                    refine lv_aload_n hx hb d_MD_planned_121 rfl (lv_at hl 0 rfl) ?_
                    refine lv_iload_n hx hb d_MD_planned_122 rfl (lv_at hl 2 rfl) ?_
                    refine lv_iload_n hx hb d_MD_planned_123 rfl (lv_at hl 3 rfl) ?_
                    obtain ⟨r35, g_r35, h⟩ := ob_some h
                    refine cl_MD_139 (rest := []) C (hml.trans hl.1.symm) hW.1 g_r35 ⟨Nat.le_of_ble_eq_true rfl, Nat.le_of_ble_eq_true rfl⟩ (Nat.le_of_ble_eq_true rfl) d_MD_planned_124 ⟨Nat.zero_le _, Nat.zero_le _⟩ ?_
                    refine lv_istore (lv' := [(5, .int r35), (0, .ref (ad 0)), (1, .int x1), (2, .int x2), (3, .int x3), (4, .int x4)]) hx hb d_MD_planned_127 hl (by decide) rfl (fun ls hl => ?_)
                    refine lv_iconst (v := 0) hx hb d_MD_planned_129 (by decide) ?_
                    refine lv_istore (lv' := [(6, .int 0), (5, .int r35), (0, .ref (ad 0)), (1, .int x1), (2, .int x2), (3, .int x3), (4, .int x4)]) hx hb d_MD_planned_130 hl (by decide) rfl (fun ls hl => ?_)
                    have k132 : ∀ (n132 : Nat) (x2 : Int32) (x3 : Int32) (x4 : Int32) (x5 : Int32) (x6 : Int32) (σ : Sg) (h : L_MD_planned_132 n132 x2 x3 x4 x5 x6 σ = some out) (H : Heap) (locs : List Loc) (hW : WR G ad cI cZ s σ H locs) (ls : Array Slot) (hl : lv_has ls 7 [(0, .ref (ad 0)), (2, .int x2), (3, .int x3), (4, .int x4), (5, .int x5), (6, .int x6)]), W p l e (headSpec wl_MD_planned ({ frames := 4, cells := 0, slots := 0, locals := 97 } : Room)).room s m (([.ref (ad 0), .int a1, .int a2, .int a3, .int a4] : List Value).toArray) below meth c H locs 0 0 (MQ below (QRi G ad cI cZ out) (([.ref (ad 0), .int a1, .int a2, .int a3, .int a4] : List Value).toArray) s 0 0 (AR ad)) (F0 m 132 ls []) := by
                      intro n132
                      induction n132 with
                      | zero =>
                        intro x2 x3 x4 x5 x6 σ h
                        exact absurd h (by intro z; cases z)
                      | succ n132 ih132 =>
                        intro x2 x3 x4 x5 x6 σ h H locs hW ls hl
                        replace h : B_MD_planned_132 (L_MD_planned_132 n132) x2 x3 x4 x5 x6 σ = some out := h
                        unfold B_MD_planned_132 at h
                        refine lv_iload hx hb d_MD_planned_132 (lv_at hl 5 rfl) ?_
                        refine lv_aload_n hx hb d_MD_planned_134 rfl (lv_at hl 0 rfl) ?_
                        refine gf_MD_123 C hW.1 d_MD_planned_135 ?_
                        refine lv_iconst (v := 1) hx hb d_MD_planned_138 (by decide) ?_
                        refine lv_isub hx hb d_MD_planned_139 ?_
                        refine lv_icmp_ge (tgt := 192) hx hb d_MD_planned_140 (by decide) (fun c36 => ?_) (fun c36 => ?_)
                        · rw [if_pos c36] at h
                          refine lv_aload_n hx hb d_MD_planned_192 rfl (lv_at hl 0 rfl) ?_
                          refine lv_iload hx hb d_MD_planned_193 (lv_at hl 4 rfl) ?_
                          refine lv_if_eq (tgt := 205) hx hb d_MD_planned_195 (by decide) (fun c42 => ?_) (fun c42 => ?_)
                          · rw [if_pos c42] at h
                            refine lv_aload_n hx hb d_MD_planned_205 rfl (lv_at hl 0 rfl) ?_
                            refine gf_MD_123 C hW.1 d_MD_planned_206 ?_
                            refine lv_iconst (v := 1) hx hb d_MD_planned_209 (by decide) ?_
                            refine lv_isub hx hb d_MD_planned_210 ?_
                            refine pf_MD_123 C hD hW d_MD_planned_211 (fun H locs hW => ?_)
                            obtain ⟨σ45, e_σ45, h⟩ := lt1_some h
                            rw [← e_σ45] at hW
                            refine lv_iload hx hb d_MD_planned_214 (lv_at hl 4 rfl) ?_
                            refine lv_if_eq (tgt := 223) hx hb d_MD_planned_216 (by decide) (fun c46 => ?_) (fun c46 => ?_)
                            · rw [if_pos c46] at h
                              refine lv_iconst (v := 1) hx hb d_MD_planned_223 (by decide) ?_
                              exact W.iret hx hb hr (fun t ht _ => qr_i h ht hW) hW.2.2.2 d_MD_planned_224
                            · rw [if_neg c46] at h
                              refine lv_iconst (v := 0) hx hb d_MD_planned_219 (by decide) ?_
                              refine lv_goto (tgt := 224) hx hb d_MD_planned_220 (by decide) ?_
                              exact W.iret hx hb hr (fun t ht _ => qr_i h ht hW) hW.2.2.2 d_MD_planned_224
                          · rw [if_neg c42] at h
                            refine lv_aload_n hx hb d_MD_planned_198 rfl (lv_at hl 0 rfl) ?_
                            refine gf_MD_123 C hW.1 d_MD_planned_199 ?_
                            refine lv_goto (tgt := 211) hx hb d_MD_planned_202 (by decide) ?_
                            refine pf_MD_123 C hD hW d_MD_planned_211 (fun H locs hW => ?_)
                            obtain ⟨σ43, e_σ43, h⟩ := lt1_some h
                            rw [← e_σ43] at hW
                            refine lv_iload hx hb d_MD_planned_214 (lv_at hl 4 rfl) ?_
                            refine lv_if_eq (tgt := 223) hx hb d_MD_planned_216 (by decide) (fun c44 => ?_) (fun c44 => ?_)
                            · rw [if_pos c44] at h
                              refine lv_iconst (v := 1) hx hb d_MD_planned_223 (by decide) ?_
                              exact W.iret hx hb hr (fun t ht _ => qr_i h ht hW) hW.2.2.2 d_MD_planned_224
                            · rw [if_neg c44] at h
                              refine lv_iconst (v := 0) hx hb d_MD_planned_219 (by decide) ?_
                              refine lv_goto (tgt := 224) hx hb d_MD_planned_220 (by decide) ?_
                              exact W.iret hx hb hr (fun t ht _ => qr_i h ht hW) hW.2.2.2 d_MD_planned_224
                        · rw [if_neg c36] at h
                          refine lv_iload hx hb d_MD_planned_143 (lv_at hl 4 rfl) ?_
                          refine lv_if_eq (tgt := 183) hx hb d_MD_planned_145 (by decide) (fun c37 => ?_) (fun c37 => ?_)
                          · rw [if_pos c37] at h
                            refine lv_iconst (v := 0) hx hb d_MD_planned_183 (by decide) ?_
                            refine lv_istore (lv' := [(5, .int 0), (0, .ref (ad 0)), (2, .int x2), (3, .int x3), (4, .int x4), (6, .int x6)]) hx hb d_MD_planned_184 hl (by decide) rfl (fun ls hl => ?_)
                            refine lv_iinc (v := x6 + 1) (lv' := [(6, .int (x6 + 1)), (5, .int 0), (0, .ref (ad 0)), (2, .int x2), (3, .int x3), (4, .int x4)]) hx hb d_MD_planned_186 hl (k := 5) rfl rfl (by decide) rfl (fun ls hl => ?_)
                            refine lv_goto (tgt := 132) hx hb d_MD_planned_189 (by decide) ?_
                            exact ih132 x2 x3 x4 0 (x6 + 1) σ h _ _ hW _ (lv_sub hl [2, 3, 4, 5, 1, 0] rfl)
                          · rw [if_neg c37] at h
                            refine lv_aload_n hx hb d_MD_planned_148 rfl (lv_at hl 0 rfl) ?_
                            refine gf_MD_65 C hW.1 d_MD_planned_149 ?_
                            refine lv_iload hx hb d_MD_planned_152 (lv_at hl 5 rfl) ?_
                            obtain ⟨hin, h⟩ := gd_some h
                            refine alR_19 C hW.1 hin d_MD_planned_154 ?_
                            refine lv_iload_n hx hb d_MD_planned_155 rfl (lv_at hl 2 rfl) ?_
                            refine lv_iload hx hb d_MD_planned_156 (lv_at hl 3 rfl) ?_
                            obtain ⟨r38, g_r38, h⟩ := ob_some h
                            refine cl_MD_98 (rest := []) C (hml.trans hl.1.symm) hW.1 g_r38 ⟨Nat.le_of_ble_eq_true rfl, Nat.le_of_ble_eq_true rfl⟩ (Nat.le_of_ble_eq_true rfl) d_MD_planned_158 ⟨Nat.zero_le _, Nat.zero_le _⟩ ?_
                            refine lv_if_eq (tgt := 179) hx hb d_MD_planned_161 (by decide) (fun c39 => ?_) (fun c39 => ?_)
                            · rw [if_pos c39] at h
                              refine lv_iconst (v := 1) hx hb d_MD_planned_179 (by decide) ?_
                              refine lv_goto (tgt := 184) hx hb d_MD_planned_180 (by decide) ?_
                              refine lv_istore (lv' := [(5, .int 1), (0, .ref (ad 0)), (2, .int x2), (3, .int x3), (4, .int x4), (6, .int x6)]) hx hb d_MD_planned_184 hl (by decide) rfl (fun ls hl => ?_)
                              refine lv_iinc (v := x6 + 1) (lv' := [(6, .int (x6 + 1)), (5, .int 1), (0, .ref (ad 0)), (2, .int x2), (3, .int x3), (4, .int x4)]) hx hb d_MD_planned_186 hl (k := 5) rfl rfl (by decide) rfl (fun ls hl => ?_)
                              refine lv_goto (tgt := 132) hx hb d_MD_planned_189 (by decide) ?_
                              exact ih132 x2 x3 x4 1 (x6 + 1) σ h _ _ hW _ (lv_sub hl [2, 3, 4, 5, 1, 0] rfl)
                            · rw [if_neg c39] at h
                              refine lv_aload_n hx hb d_MD_planned_164 rfl (lv_at hl 0 rfl) ?_
                              refine lv_iload_n hx hb d_MD_planned_165 rfl (lv_at hl 1 rfl) ?_
                              refine lv_aload_n hx hb d_MD_planned_166 rfl (lv_at hl 0 rfl) ?_
                              refine gf_MD_65 C hW.1 d_MD_planned_167 ?_
                              refine lv_iload hx hb d_MD_planned_170 (lv_at hl 5 rfl) ?_
                              obtain ⟨hin, h⟩ := gd_some h
                              refine alR_19 C hW.1 hin d_MD_planned_172 ?_
                              obtain ⟨r40, g_r40, h⟩ := ob_some h
                              refine cl_MD_139 (rest := []) C (hml.trans hl.1.symm) hW.1 g_r40 ⟨Nat.le_of_ble_eq_true rfl, Nat.le_of_ble_eq_true rfl⟩ (Nat.le_of_ble_eq_true rfl) d_MD_planned_173 ⟨Nat.zero_le _, Nat.zero_le _⟩ ?_
                              refine lv_if_eq (tgt := 183) hx hb d_MD_planned_176 (by decide) (fun c41 => ?_) (fun c41 => ?_)
                              · rw [if_pos c41] at h
                                refine lv_iconst (v := 0) hx hb d_MD_planned_183 (by decide) ?_
                                refine lv_istore (lv' := [(5, .int 0), (0, .ref (ad 0)), (2, .int x2), (3, .int x3), (4, .int x4), (6, .int x6)]) hx hb d_MD_planned_184 hl (by decide) rfl (fun ls hl => ?_)
                                refine lv_iinc (v := x6 + 1) (lv' := [(6, .int (x6 + 1)), (5, .int 0), (0, .ref (ad 0)), (2, .int x2), (3, .int x3), (4, .int x4)]) hx hb d_MD_planned_186 hl (k := 5) rfl rfl (by decide) rfl (fun ls hl => ?_)
                                refine lv_goto (tgt := 132) hx hb d_MD_planned_189 (by decide) ?_
                                exact ih132 x2 x3 x4 0 (x6 + 1) σ h _ _ hW _ (lv_sub hl [2, 3, 4, 5, 1, 0] rfl)
                              · rw [if_neg c41] at h
                                refine lv_iconst (v := 1) hx hb d_MD_planned_179 (by decide) ?_
                                refine lv_goto (tgt := 184) hx hb d_MD_planned_180 (by decide) ?_
                                refine lv_istore (lv' := [(5, .int 1), (0, .ref (ad 0)), (2, .int x2), (3, .int x3), (4, .int x4), (6, .int x6)]) hx hb d_MD_planned_184 hl (by decide) rfl (fun ls hl => ?_)
                                refine lv_iinc (v := x6 + 1) (lv' := [(6, .int (x6 + 1)), (5, .int 1), (0, .ref (ad 0)), (2, .int x2), (3, .int x3), (4, .int x4)]) hx hb d_MD_planned_186 hl (k := 5) rfl rfl (by decide) rfl (fun ls hl => ?_)
                                refine lv_goto (tgt := 132) hx hb d_MD_planned_189 (by decide) ?_
                                exact ih132 x2 x3 x4 1 (x6 + 1) σ h _ _ hW _ (lv_sub hl [2, 3, 4, 5, 1, 0] rfl)
                    exact k132 _ x2 x3 x4 r35 0 σ34 h _ _ hW _ (lv_sub hl [2, 4, 5, 6, 1, 0] rfl)
                  · rw [if_pos c29] at h
                    refine lv_iconst (v := 0) hx hb d_MD_planned_68 (by decide) ?_
                    exact W.iret hx hb hr (fun t ht _ => qr_i h ht hW) hW.2.2.2 d_MD_planned_69
                exact k62 x1 x2 x3 x4 0 1 s0 σ h _ _ hW _ (lv_sub hl [0, 1, 2, 3, 4] rfl)
              · rw [if_neg c8] at h
                refine lv_iconst (v := 1) hx hb d_MD_planned_57 (by decide) ?_
                refine lv_goto (tgt := 62) hx hb d_MD_planned_58 (by decide) ?_
                have k62 : ∀ (x1 : Int32) (x2 : Int32) (x3 : Int32) (x4 : Int32) (s0 : Int32) (s1 : Int32) (s2 : Int32) (σ : Sg) (h : C_MD_planned_62 x1 x2 x3 x4 s0 s1 s2 σ = some out) (H : Heap) (locs : List Loc) (hW : WR G ad cI cZ s σ H locs) (ls : Array Slot) (hl : lv_has ls 7 [(0, .ref (ad 0)), (1, .int x1), (2, .int x2), (3, .int x3), (4, .int x4)]), W p l e (headSpec wl_MD_planned ({ frames := 4, cells := 0, slots := 0, locals := 97 } : Room)).room s m (([.ref (ad 0), .int a1, .int a2, .int a3, .int a4] : List Value).toArray) below meth c H locs 0 0 (MQ below (QRi G ad cI cZ out) (([.ref (ad 0), .int a1, .int a2, .int a3, .int a4] : List Value).toArray) s 0 0 (AR ad)) (F0 m 62 ls [.int s0, .int s1, .int s2, .ref (ad 0)]) := by
                  intro x1 x2 x3 x4 s0 s1 s2 σ h H locs hW ls hl
                  unfold C_MD_planned_62 at h
                  obtain ⟨r9, g_r9, h⟩ := ob_some h
                  refine cl_MD_102 (rest := []) C hD (hml.trans hl.1.symm) hW g_r9 ⟨Nat.le_of_ble_eq_true rfl, Nat.le_of_ble_eq_true rfl⟩ (Nat.le_of_ble_eq_true rfl) d_MD_planned_62 ⟨Nat.zero_le _, Nat.zero_le _⟩ (fun H locs hW => ?_)
                  refine lv_if_ne (tgt := 70) hx hb d_MD_planned_65 (by decide) (fun c10 => ?_) (fun c10 => ?_)
                  · rw [if_neg c10] at h
                    refine lv_aload_n hx hb d_MD_planned_70 rfl (lv_at hl 0 rfl) ?_
                    refine gf_MD_59 C hW.1 d_MD_planned_71 ?_
                    refine lv_aload_n hx hb d_MD_planned_74 rfl (lv_at hl 0 rfl) ?_
                    refine gf_MD_123 C hW.1 d_MD_planned_75 ?_
                    refine lv_iload_n hx hb d_MD_planned_78 rfl (lv_at hl 1 rfl) ?_
                    obtain ⟨hin, h⟩ := gd_some h
                    refine asR_17 C hD hW hin d_MD_planned_79 (fun H locs hW => ?_)
                    obtain ⟨σ11, e_σ11, h⟩ := lt1_some h
                    rw [← e_σ11] at hW
                    refine lv_aload_n hx hb d_MD_planned_80 rfl (lv_at hl 0 rfl) ?_
                    refine gf_MD_62 C hW.1 d_MD_planned_81 ?_
                    refine lv_aload_n hx hb d_MD_planned_84 rfl (lv_at hl 0 rfl) ?_
                    refine gf_MD_123 C hW.1 d_MD_planned_85 ?_
                    refine lv_iload_n hx hb d_MD_planned_88 rfl (lv_at hl 2 rfl) ?_
                    obtain ⟨hin, h⟩ := gd_some h
                    refine asR_18 C hD hW hin d_MD_planned_89 (fun H locs hW => ?_)
                    obtain ⟨σ12, e_σ12, h⟩ := lt1_some h
                    rw [← e_σ12] at hW
                    refine lv_aload_n hx hb d_MD_planned_90 rfl (lv_at hl 0 rfl) ?_
                    refine gf_MD_65 C hW.1 d_MD_planned_91 ?_
                    refine lv_aload_n hx hb d_MD_planned_94 rfl (lv_at hl 0 rfl) ?_
                    refine gf_MD_123 C hW.1 d_MD_planned_95 ?_
                    refine lv_iload_n hx hb d_MD_planned_98 rfl (lv_at hl 3 rfl) ?_
                    obtain ⟨hin, h⟩ := gd_some h
                    refine asR_19 C hD hW hin d_MD_planned_99 (fun H locs hW => ?_)
                    obtain ⟨σ13, e_σ13, h⟩ := lt1_some h
                    rw [← e_σ13] at hW
                    refine lv_aload_n hx hb d_MD_planned_100 rfl (lv_at hl 0 rfl) ?_
                    refine gf_MD_68 C hW.1 d_MD_planned_101 ?_
                    refine lv_aload_n hx hb d_MD_planned_104 rfl (lv_at hl 0 rfl) ?_
                    refine gf_MD_123 C hW.1 d_MD_planned_105 ?_
                    refine lv_iload hx hb d_MD_planned_108 (lv_at hl 4 rfl) ?_
                    obtain ⟨hin, h⟩ := gd_some h
                    refine asR_20 C hD hW hin d_MD_planned_110 (fun H locs hW => ?_)
                    obtain ⟨σ14, e_σ14, h⟩ := lt1_some h
                    rw [← e_σ14] at hW
                    refine lv_aload_n hx hb d_MD_planned_111 rfl (lv_at hl 0 rfl) ?_
                    refine lv_dup hx hb d_MD_planned_112 rfl ?_
                    refine gf_MD_123 C hW.1 d_MD_planned_113 ?_
                    refine lv_iconst (v := 1) hx hb d_MD_planned_116 (by decide) ?_
                    refine lv_iadd hx hb d_MD_planned_117 ?_
                    refine pf_MD_123 C hD hW d_MD_planned_118 (fun H locs hW => ?_)
                    obtain ⟨σ15, e_σ15, h⟩ := lt1_some h
                    rw [← e_σ15] at hW
                    refine lv_aload_n hx hb d_MD_planned_121 rfl (lv_at hl 0 rfl) ?_
                    refine lv_iload_n hx hb d_MD_planned_122 rfl (lv_at hl 2 rfl) ?_
                    refine lv_iload_n hx hb d_MD_planned_123 rfl (lv_at hl 3 rfl) ?_
                    obtain ⟨r16, g_r16, h⟩ := ob_some h
                    refine cl_MD_139 (rest := []) C (hml.trans hl.1.symm) hW.1 g_r16 ⟨Nat.le_of_ble_eq_true rfl, Nat.le_of_ble_eq_true rfl⟩ (Nat.le_of_ble_eq_true rfl) d_MD_planned_124 ⟨Nat.zero_le _, Nat.zero_le _⟩ ?_
                    refine lv_istore (lv' := [(5, .int r16), (0, .ref (ad 0)), (1, .int x1), (2, .int x2), (3, .int x3), (4, .int x4)]) hx hb d_MD_planned_127 hl (by decide) rfl (fun ls hl => ?_)
                    refine lv_iconst (v := 0) hx hb d_MD_planned_129 (by decide) ?_
                    refine lv_istore (lv' := [(6, .int 0), (5, .int r16), (0, .ref (ad 0)), (1, .int x1), (2, .int x2), (3, .int x3), (4, .int x4)]) hx hb d_MD_planned_130 hl (by decide) rfl (fun ls hl => ?_)
                    have k132 : ∀ (n132 : Nat) (x2 : Int32) (x3 : Int32) (x4 : Int32) (x5 : Int32) (x6 : Int32) (σ : Sg) (h : L_MD_planned_132 n132 x2 x3 x4 x5 x6 σ = some out) (H : Heap) (locs : List Loc) (hW : WR G ad cI cZ s σ H locs) (ls : Array Slot) (hl : lv_has ls 7 [(0, .ref (ad 0)), (2, .int x2), (3, .int x3), (4, .int x4), (5, .int x5), (6, .int x6)]), W p l e (headSpec wl_MD_planned ({ frames := 4, cells := 0, slots := 0, locals := 97 } : Room)).room s m (([.ref (ad 0), .int a1, .int a2, .int a3, .int a4] : List Value).toArray) below meth c H locs 0 0 (MQ below (QRi G ad cI cZ out) (([.ref (ad 0), .int a1, .int a2, .int a3, .int a4] : List Value).toArray) s 0 0 (AR ad)) (F0 m 132 ls []) := by
                      intro n132
                      induction n132 with
                      | zero =>
                        intro x2 x3 x4 x5 x6 σ h
                        exact absurd h (by intro z; cases z)
                      | succ n132 ih132 =>
                        intro x2 x3 x4 x5 x6 σ h H locs hW ls hl
                        replace h : B_MD_planned_132 (L_MD_planned_132 n132) x2 x3 x4 x5 x6 σ = some out := h
                        unfold B_MD_planned_132 at h
                        refine lv_iload hx hb d_MD_planned_132 (lv_at hl 5 rfl) ?_
                        refine lv_aload_n hx hb d_MD_planned_134 rfl (lv_at hl 0 rfl) ?_
                        refine gf_MD_123 C hW.1 d_MD_planned_135 ?_
                        refine lv_iconst (v := 1) hx hb d_MD_planned_138 (by decide) ?_
                        refine lv_isub hx hb d_MD_planned_139 ?_
                        refine lv_icmp_ge (tgt := 192) hx hb d_MD_planned_140 (by decide) (fun c17 => ?_) (fun c17 => ?_)
                        · rw [if_pos c17] at h
                          refine lv_aload_n hx hb d_MD_planned_192 rfl (lv_at hl 0 rfl) ?_
                          refine lv_iload hx hb d_MD_planned_193 (lv_at hl 4 rfl) ?_
                          refine lv_if_eq (tgt := 205) hx hb d_MD_planned_195 (by decide) (fun c23 => ?_) (fun c23 => ?_)
                          · rw [if_pos c23] at h
                            refine lv_aload_n hx hb d_MD_planned_205 rfl (lv_at hl 0 rfl) ?_
                            refine gf_MD_123 C hW.1 d_MD_planned_206 ?_
                            refine lv_iconst (v := 1) hx hb d_MD_planned_209 (by decide) ?_
                            refine lv_isub hx hb d_MD_planned_210 ?_
                            refine pf_MD_123 C hD hW d_MD_planned_211 (fun H locs hW => ?_)
                            obtain ⟨σ26, e_σ26, h⟩ := lt1_some h
                            rw [← e_σ26] at hW
                            refine lv_iload hx hb d_MD_planned_214 (lv_at hl 4 rfl) ?_
                            refine lv_if_eq (tgt := 223) hx hb d_MD_planned_216 (by decide) (fun c27 => ?_) (fun c27 => ?_)
                            · rw [if_pos c27] at h
                              refine lv_iconst (v := 1) hx hb d_MD_planned_223 (by decide) ?_
                              exact W.iret hx hb hr (fun t ht _ => qr_i h ht hW) hW.2.2.2 d_MD_planned_224
                            · rw [if_neg c27] at h
                              refine lv_iconst (v := 0) hx hb d_MD_planned_219 (by decide) ?_
                              refine lv_goto (tgt := 224) hx hb d_MD_planned_220 (by decide) ?_
                              exact W.iret hx hb hr (fun t ht _ => qr_i h ht hW) hW.2.2.2 d_MD_planned_224
                          · rw [if_neg c23] at h
                            refine lv_aload_n hx hb d_MD_planned_198 rfl (lv_at hl 0 rfl) ?_
                            refine gf_MD_123 C hW.1 d_MD_planned_199 ?_
                            refine lv_goto (tgt := 211) hx hb d_MD_planned_202 (by decide) ?_
                            refine pf_MD_123 C hD hW d_MD_planned_211 (fun H locs hW => ?_)
                            obtain ⟨σ24, e_σ24, h⟩ := lt1_some h
                            rw [← e_σ24] at hW
                            refine lv_iload hx hb d_MD_planned_214 (lv_at hl 4 rfl) ?_
                            refine lv_if_eq (tgt := 223) hx hb d_MD_planned_216 (by decide) (fun c25 => ?_) (fun c25 => ?_)
                            · rw [if_pos c25] at h
                              refine lv_iconst (v := 1) hx hb d_MD_planned_223 (by decide) ?_
                              exact W.iret hx hb hr (fun t ht _ => qr_i h ht hW) hW.2.2.2 d_MD_planned_224
                            · rw [if_neg c25] at h
                              refine lv_iconst (v := 0) hx hb d_MD_planned_219 (by decide) ?_
                              refine lv_goto (tgt := 224) hx hb d_MD_planned_220 (by decide) ?_
                              exact W.iret hx hb hr (fun t ht _ => qr_i h ht hW) hW.2.2.2 d_MD_planned_224
                        · rw [if_neg c17] at h
                          refine lv_iload hx hb d_MD_planned_143 (lv_at hl 4 rfl) ?_
                          refine lv_if_eq (tgt := 183) hx hb d_MD_planned_145 (by decide) (fun c18 => ?_) (fun c18 => ?_)
                          · rw [if_pos c18] at h
                            refine lv_iconst (v := 0) hx hb d_MD_planned_183 (by decide) ?_
                            refine lv_istore (lv' := [(5, .int 0), (0, .ref (ad 0)), (2, .int x2), (3, .int x3), (4, .int x4), (6, .int x6)]) hx hb d_MD_planned_184 hl (by decide) rfl (fun ls hl => ?_)
                            refine lv_iinc (v := x6 + 1) (lv' := [(6, .int (x6 + 1)), (5, .int 0), (0, .ref (ad 0)), (2, .int x2), (3, .int x3), (4, .int x4)]) hx hb d_MD_planned_186 hl (k := 5) rfl rfl (by decide) rfl (fun ls hl => ?_)
                            refine lv_goto (tgt := 132) hx hb d_MD_planned_189 (by decide) ?_
                            exact ih132 x2 x3 x4 0 (x6 + 1) σ h _ _ hW _ (lv_sub hl [2, 3, 4, 5, 1, 0] rfl)
                          · rw [if_neg c18] at h
                            refine lv_aload_n hx hb d_MD_planned_148 rfl (lv_at hl 0 rfl) ?_
                            refine gf_MD_65 C hW.1 d_MD_planned_149 ?_
                            refine lv_iload hx hb d_MD_planned_152 (lv_at hl 5 rfl) ?_
                            obtain ⟨hin, h⟩ := gd_some h
                            refine alR_19 C hW.1 hin d_MD_planned_154 ?_
                            refine lv_iload_n hx hb d_MD_planned_155 rfl (lv_at hl 2 rfl) ?_
                            refine lv_iload hx hb d_MD_planned_156 (lv_at hl 3 rfl) ?_
                            obtain ⟨r19, g_r19, h⟩ := ob_some h
                            refine cl_MD_98 (rest := []) C (hml.trans hl.1.symm) hW.1 g_r19 ⟨Nat.le_of_ble_eq_true rfl, Nat.le_of_ble_eq_true rfl⟩ (Nat.le_of_ble_eq_true rfl) d_MD_planned_158 ⟨Nat.zero_le _, Nat.zero_le _⟩ ?_
                            refine lv_if_eq (tgt := 179) hx hb d_MD_planned_161 (by decide) (fun c20 => ?_) (fun c20 => ?_)
                            · rw [if_pos c20] at h
                              refine lv_iconst (v := 1) hx hb d_MD_planned_179 (by decide) ?_
                              refine lv_goto (tgt := 184) hx hb d_MD_planned_180 (by decide) ?_
                              refine lv_istore (lv' := [(5, .int 1), (0, .ref (ad 0)), (2, .int x2), (3, .int x3), (4, .int x4), (6, .int x6)]) hx hb d_MD_planned_184 hl (by decide) rfl (fun ls hl => ?_)
                              refine lv_iinc (v := x6 + 1) (lv' := [(6, .int (x6 + 1)), (5, .int 1), (0, .ref (ad 0)), (2, .int x2), (3, .int x3), (4, .int x4)]) hx hb d_MD_planned_186 hl (k := 5) rfl rfl (by decide) rfl (fun ls hl => ?_)
                              refine lv_goto (tgt := 132) hx hb d_MD_planned_189 (by decide) ?_
                              exact ih132 x2 x3 x4 1 (x6 + 1) σ h _ _ hW _ (lv_sub hl [2, 3, 4, 5, 1, 0] rfl)
                            · rw [if_neg c20] at h
                              refine lv_aload_n hx hb d_MD_planned_164 rfl (lv_at hl 0 rfl) ?_
                              refine lv_iload_n hx hb d_MD_planned_165 rfl (lv_at hl 1 rfl) ?_
                              refine lv_aload_n hx hb d_MD_planned_166 rfl (lv_at hl 0 rfl) ?_
                              refine gf_MD_65 C hW.1 d_MD_planned_167 ?_
                              refine lv_iload hx hb d_MD_planned_170 (lv_at hl 5 rfl) ?_
                              obtain ⟨hin, h⟩ := gd_some h
                              refine alR_19 C hW.1 hin d_MD_planned_172 ?_
                              obtain ⟨r21, g_r21, h⟩ := ob_some h
                              refine cl_MD_139 (rest := []) C (hml.trans hl.1.symm) hW.1 g_r21 ⟨Nat.le_of_ble_eq_true rfl, Nat.le_of_ble_eq_true rfl⟩ (Nat.le_of_ble_eq_true rfl) d_MD_planned_173 ⟨Nat.zero_le _, Nat.zero_le _⟩ ?_
                              refine lv_if_eq (tgt := 183) hx hb d_MD_planned_176 (by decide) (fun c22 => ?_) (fun c22 => ?_)
                              · rw [if_pos c22] at h
                                refine lv_iconst (v := 0) hx hb d_MD_planned_183 (by decide) ?_
                                refine lv_istore (lv' := [(5, .int 0), (0, .ref (ad 0)), (2, .int x2), (3, .int x3), (4, .int x4), (6, .int x6)]) hx hb d_MD_planned_184 hl (by decide) rfl (fun ls hl => ?_)
                                refine lv_iinc (v := x6 + 1) (lv' := [(6, .int (x6 + 1)), (5, .int 0), (0, .ref (ad 0)), (2, .int x2), (3, .int x3), (4, .int x4)]) hx hb d_MD_planned_186 hl (k := 5) rfl rfl (by decide) rfl (fun ls hl => ?_)
                                refine lv_goto (tgt := 132) hx hb d_MD_planned_189 (by decide) ?_
                                exact ih132 x2 x3 x4 0 (x6 + 1) σ h _ _ hW _ (lv_sub hl [2, 3, 4, 5, 1, 0] rfl)
                              · rw [if_neg c22] at h
                                refine lv_iconst (v := 1) hx hb d_MD_planned_179 (by decide) ?_
                                refine lv_goto (tgt := 184) hx hb d_MD_planned_180 (by decide) ?_
                                refine lv_istore (lv' := [(5, .int 1), (0, .ref (ad 0)), (2, .int x2), (3, .int x3), (4, .int x4), (6, .int x6)]) hx hb d_MD_planned_184 hl (by decide) rfl (fun ls hl => ?_)
                                refine lv_iinc (v := x6 + 1) (lv' := [(6, .int (x6 + 1)), (5, .int 1), (0, .ref (ad 0)), (2, .int x2), (3, .int x3), (4, .int x4)]) hx hb d_MD_planned_186 hl (k := 5) rfl rfl (by decide) rfl (fun ls hl => ?_)
                                refine lv_goto (tgt := 132) hx hb d_MD_planned_189 (by decide) ?_
                                exact ih132 x2 x3 x4 1 (x6 + 1) σ h _ _ hW _ (lv_sub hl [2, 3, 4, 5, 1, 0] rfl)
                    exact k132 _ x2 x3 x4 r16 0 σ15 h _ _ hW _ (lv_sub hl [2, 4, 5, 6, 1, 0] rfl)
                  · rw [if_pos c10] at h
                    refine lv_iconst (v := 0) hx hb d_MD_planned_68 (by decide) ?_
                    exact W.iret hx hb hr (fun t ht _ => qr_i h ht hW) hW.2.2.2 d_MD_planned_69
                exact k62 x1 x2 x3 x4 1 1 s0 σ h _ _ hW _ (lv_sub hl [0, 1, 2, 3, 4] rfl)
      exact k22 a1 a2 a3 a4 1 σ h _ _ hW _ (lv_sub hl [0, 1, 2, 3, 4] rfl)
