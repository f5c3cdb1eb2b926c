abbrev wl_PM_into : List Cond := .code ⟨"PlaceMoves", "into", "(III)I"⟩ prog_1_method_8_code 4 (some FieldType.int) :: WG
set_option maxHeartbeats 4000000 in
set_option maxRecDepth 100000 in
theorem c_PM_into (l : Launch) (hfl : l.flags = pinnedFlags ++ [noTraceFlag]) (b0 : Nat) (G : va_G) (ad : Nat → Nat) (cI cZ : ClassId) (hD : DX ad) (hb0 : ∀ k, k < 32 → b0 ≤ ad k) (σ : Sg) (a1 : Int32) (a2 : Int32) (a3 : Int32) (out : Nat × Int32 × Sg) (h : f_PM_into σ a1 a2 a3 = some out) : tx_Met l ⟨"PlaceMoves", "into", "(III)I"⟩ wl_PM_into (rmE 8 165 out.1) (PcT b0 G ad cI cZ σ [.ref (ad 0), .int a1, .int a2, .int a3]) (QXi G ad cI cZ out) (cE out.1) (6 * cE out.1) (AX ad) := by
  refine tx_ofW (cc := prog_1_method_8_code) (maxL := 4) (ret := (some FieldType.int)) (by decide) rfl ?_
  intro p e s m args below meth c s₁ B hml hv
  obtain ⟨rfl, hP, hK, hTE⟩ := hv
  have hx := B.exec
  have hb := B.bytes
  have hr := B.returns
  have hts0 := atoms_spec (ws := wl_PM_into) B.pre
  have hts : ∀ w ∈ WG, w.before _ s = true := fun w hw => hts0 w (List.mem_cons_of_mem _ hw)
  have hne := B.noHandlers (hts0 _ List.mem_cons_self)
  have hown : s.vm.findClass "PlaceMoves" = some m.cls := findClass_of_methodNamed B.named
  have hlocks := B.notSynchronized
  have C : CX "PlaceMoves" prog_1_method_8_code p s m _ c G cI cZ := ⟨hx, hb, hown, hts, hK⟩
  have hl := lv_entry ([.ref (ad 0), .int a1, .int a2, .int a3]) (n := 4) (Nat.le_of_ble_eq_true rfl)
  rw [lg_entry_eq]
  generalize (lg_sl ([.ref (ad 0), .int a1, .int a2, .int a3]) ++ List.replicate (4 - (lg_sl ([.ref (ad 0), .int a1, .int a2, .int a3])).length) Slot.unset).toArray = ls at hl ⊢
  have hl : lv_has ls 4 [(0, .ref (ad 0)), (1, .int a1), (2, .int a2), (3, .int a3)] := hl
  unfold f_PM_into at h
  have hW : WS G ad cI cZ s σ s.heap [] := ⟨hP, va_S.rf⟩
  refine lv_aload_n hx hb d_PM_into_0 rfl (lv_at hl 0 rfl) ?_
  refine lv_iload_n hx hb d_PM_into_1 rfl (lv_at hl 1 rfl) ?_
  obtain ⟨r1, g_r1, h⟩ := ob_some h
  by_cases z_r1 : r1 = 0
  · rw [if_pos z_r1] at h
    refine cl_PM_88 (rest := []) C hfl (TE.ofS hTE hb0 hW) (hml.trans hl.1.symm) hW.1 g_r1 z_r1 ⟨Nat.le_of_ble_eq_true rfl, Nat.le_of_ble_eq_true rfl⟩ (Nat.le_of_ble_eq_true rfl) d_PM_into_2 ⟨Nat.zero_le _, Nat.zero_le _⟩ ?_
    refine lv_aload_n hx hb d_PM_into_5 rfl (lv_at hl 0 rfl) ?_
    refine lv_iload_n hx hb d_PM_into_6 rfl (lv_at hl 2 rfl) ?_
    obtain ⟨r2, g_r2, h⟩ := ob_some h
    by_cases z_r2 : r2 = 0
    · rw [if_pos z_r2] at h
      refine cl_PM_88 (rest := []) C hfl (TE.ofS hTE hb0 hW) (hml.trans hl.1.symm) hW.1 g_r2 z_r2 ⟨Nat.le_of_ble_eq_true rfl, Nat.le_of_ble_eq_true rfl⟩ (Nat.le_of_ble_eq_true rfl) d_PM_into_7 ⟨Nat.zero_le _, Nat.zero_le _⟩ ?_
      refine lv_iload_n hx hb d_PM_into_10 rfl (lv_at hl 3 rfl) ?_
      refine lv_aload_n hx hb d_PM_into_11 rfl (lv_at hl 0 rfl) ?_
      refine gf_PM_59 C hW.1 d_PM_into_12 ?_
      refine lv_ldc (v := 1000000) hx hb hown (hts _ w_343) d_PM_into_15 ?_
      obtain ⟨r3, g_r3, h⟩ := ob_some h
      by_cases z_r3 : r3 = 0
      · rw [if_pos z_r3] at h
        refine cl_PM_68 (rest := []) C hfl (TE.ofS hTE hb0 hW) (hml.trans hl.1.symm) hW.1 g_r3 z_r3 ⟨Nat.le_of_ble_eq_true rfl, Nat.le_of_ble_eq_true rfl⟩ (Nat.le_of_ble_eq_true rfl) d_PM_into_17 ⟨Nat.zero_le _, Nat.zero_le _⟩ ?_
        refine lv_aload_n hx hb d_PM_into_20 rfl (lv_at hl 0 rfl) ?_
        refine gf_PM_26 C hW.1 d_PM_into_21 ?_
        refine gf_PM_100 C hW.1 d_PM_into_24 ?_
        refine lv_iload_n hx hb d_PM_into_27 rfl (lv_at hl 1 rfl) ?_
        obtain ⟨hin, h⟩ := gd_some h
        refine al_17 C hW.1 hin d_PM_into_28 ?_
        refine lv_bipush (v := 40) hx hb d_PM_into_29 (by decide) ?_
        obtain ⟨r4, g_r4, h⟩ := ob_some h
        by_cases z_r4 : r4 = 0
        · rw [if_pos z_r4] at h
          refine cl_PM_75 (rest := []) C hfl (TE.ofS hTE hb0 hW) (hml.trans hl.1.symm) hW.1 g_r4 z_r4 ⟨Nat.le_of_ble_eq_true rfl, Nat.le_of_ble_eq_true rfl⟩ (Nat.le_of_ble_eq_true rfl) d_PM_into_31 ⟨Nat.zero_le _, Nat.zero_le _⟩ ?_
          refine lv_aload_n hx hb d_PM_into_34 rfl (lv_at hl 0 rfl) ?_
          refine gf_PM_19 C hW.1 d_PM_into_35 ?_
          refine gf_PM_97 C hW.1 d_PM_into_38 ?_
          refine lv_iload_n hx hb d_PM_into_41 rfl (lv_at hl 2 rfl) ?_
          obtain ⟨hin, h⟩ := gd_some h
          refine al_16 C hW.1 hin d_PM_into_42 ?_
          refine lv_if_eq (tgt := 61) hx hb d_PM_into_43 (by decide) (fun c5 => ?_) (fun c5 => ?_)
          · rw [if_pos c5] at h
            refine lv_iconst (v := 1) hx hb d_PM_into_61 (by decide) ?_
            exact tx_leafx (some_fst h) (W.iret hx hb hr (fun t ht _ => qx_i h ht hW) hW.2.2.2 d_PM_into_62)
          · rw [if_neg c5] at h
            refine lv_iload_n hx hb d_PM_into_46 rfl (lv_at hl 2 rfl) ?_
            refine lv_iload_n hx hb d_PM_into_47 rfl (lv_at hl 1 rfl) ?_
            refine lv_icmp_eq (tgt := 61) hx hb d_PM_into_48 (by decide) (fun c6 => ?_) (fun c6 => ?_)
            · rw [if_pos c6] at h
              refine lv_iconst (v := 1) hx hb d_PM_into_61 (by decide) ?_
              exact tx_leafx (some_fst h) (W.iret hx hb hr (fun t ht _ => qx_i h ht hW) hW.2.2.2 d_PM_into_62)
            · rw [if_neg c6] at h
              refine lv_aload_n hx hb d_PM_into_51 rfl (lv_at hl 0 rfl) ?_
              refine lv_iload_n hx hb d_PM_into_52 rfl (lv_at hl 2 rfl) ?_
              refine lv_iload_n hx hb d_PM_into_53 rfl (lv_at hl 1 rfl) ?_
              refine lv_iload_n hx hb d_PM_into_54 rfl (lv_at hl 3 rfl) ?_
              obtain ⟨r7, g_r7, h⟩ := ob_some h
              refine cl_PM_116 (rest := []) C (hml.trans hl.1.symm) hW.1 g_r7 ⟨Nat.le_of_ble_eq_true rfl, Nat.le_of_ble_eq_true rfl⟩ (Nat.le_of_ble_eq_true rfl) d_PM_into_55 ⟨Nat.zero_le _, Nat.zero_le _⟩ ?_
              refine lv_if_eq (tgt := 63) hx hb d_PM_into_58 (by decide) (fun c8 => ?_) (fun c8 => ?_)
              · rw [if_pos c8] at h
                refine lv_aload_n hx hb d_PM_into_63 rfl (lv_at hl 0 rfl) ?_
                refine gf_PM_19 C hW.1 d_PM_into_64 ?_
                refine lv_iload_n hx hb d_PM_into_67 rfl (lv_at hl 1 rfl) ?_
                refine lv_iload_n hx hb d_PM_into_68 rfl (lv_at hl 2 rfl) ?_
                obtain ⟨r9, g_r9, h⟩ := ob_some h
                refine cl_PM_119 (rest := []) C (hml.trans hl.1.symm) hW.1 g_r9 ⟨Nat.le_of_ble_eq_true rfl, Nat.le_of_ble_eq_true rfl⟩ (Nat.le_of_ble_eq_true rfl) d_PM_into_69 ⟨Nat.zero_le _, Nat.zero_le _⟩ ?_
                refine lv_if_ne (tgt := 77) hx hb d_PM_into_72 (by decide) (fun c10 => ?_) (fun c10 => ?_)
                · rw [if_neg c10] at h
                  refine lv_aload_n hx hb d_PM_into_77 rfl (lv_at hl 0 rfl) ?_
                  refine gf_PM_19 C hW.1 d_PM_into_78 ?_
                  refine gf_PM_91 C hW.1 d_PM_into_81 ?_
                  refine lv_iload_n hx hb d_PM_into_84 rfl (lv_at hl 1 rfl) ?_
                  obtain ⟨hin, h⟩ := gd_some h
                  refine al_15 C hW.1 hin d_PM_into_85 ?_
                  refine lv_if_le (tgt := 91) hx hb d_PM_into_86 (by decide) (fun c11 => ?_) (fun c11 => ?_)
                  · rw [if_pos c11] at h
                    refine lv_aload_n hx hb d_PM_into_91 rfl (lv_at hl 0 rfl) ?_
                    refine lv_aload_n hx hb d_PM_into_92 rfl (lv_at hl 0 rfl) ?_
                    refine lv_iload_n hx hb d_PM_into_93 rfl (lv_at hl 1 rfl) ?_
                    refine lv_iload_n hx hb d_PM_into_94 rfl (lv_at hl 3 rfl) ?_
                    obtain ⟨r12, g_r12, h⟩ := ob_some h
                    refine cl_PM_105 (rest := [.ref (ad 0)]) C (hml.trans hl.1.symm) hW.1 g_r12 ⟨Nat.le_of_ble_eq_true rfl, Nat.le_of_ble_eq_true rfl⟩ (Nat.le_of_ble_eq_true rfl) d_PM_into_95 ⟨Nat.zero_le _, Nat.zero_le _⟩ ?_
                    refine lv_aload_n hx hb d_PM_into_98 rfl (lv_at hl 0 rfl) ?_
                    refine lv_iload_n hx hb d_PM_into_99 rfl (lv_at hl 2 rfl) ?_
                    refine lv_iload_n hx hb d_PM_into_100 rfl (lv_at hl 3 rfl) ?_
                    obtain ⟨r13, g_r13, h⟩ := ob_some h
                    refine cl_PM_105 (rest := [.int r12, .ref (ad 0)]) C (hml.trans hl.1.symm) hW.1 g_r13 ⟨Nat.le_of_ble_eq_true rfl, Nat.le_of_ble_eq_true rfl⟩ (Nat.le_of_ble_eq_true rfl) d_PM_into_101 ⟨Nat.zero_le _, Nat.zero_le _⟩ ?_
                    refine lv_iload_n hx hb d_PM_into_104 rfl (lv_at hl 3 rfl) ?_
                    obtain ⟨r14, g_r14, h⟩ := ob_some h
                    refine cl_PM_108 (rest := []) C (hml.trans hl.1.symm) hW.1 g_r14 ⟨Nat.le_of_ble_eq_true rfl, Nat.le_of_ble_eq_true rfl⟩ (Nat.le_of_ble_eq_true rfl) d_PM_into_105 ⟨Nat.zero_le _, Nat.zero_le _⟩ ?_
                    refine lv_if_eq (tgt := 113) hx hb d_PM_into_108 (by decide) (fun c15 => ?_) (fun c15 => ?_)
                    · rw [if_pos c15] at h
                      refine lv_aload_n hx hb d_PM_into_113 rfl (lv_at hl 0 rfl) ?_
                      refine lv_iload_n hx hb d_PM_into_114 rfl (lv_at hl 1 rfl) ?_
                      refine lv_iload_n hx hb d_PM_into_115 rfl (lv_at hl 3 rfl) ?_
                      refine lv_iconst (v := 1) hx hb d_PM_into_116 (by decide) ?_
                      refine lv_iload_n hx hb d_PM_into_117 rfl (lv_at hl 2 rfl) ?_
                      obtain ⟨r16, g_r16, h⟩ := ob_some h
                      refine cl_PM_112 (rest := []) C hD (hml.trans hl.1.symm) hW g_r16 ⟨Nat.le_of_ble_eq_true rfl, Nat.le_of_ble_eq_true rfl⟩ (Nat.le_of_ble_eq_true rfl) d_PM_into_118 ⟨Nat.zero_le _, Nat.zero_le _⟩ (fun H locs hW => ?_)
                      refine lv_if_eq (tgt := 128) hx hb d_PM_into_121 (by decide) (fun c17 => ?_) (fun c17 => ?_)
                      · rw [if_pos c17] at h
                        refine lv_iconst (v := 5) hx hb d_PM_into_128 (by decide) ?_
                        exact tx_leafx (some_fst h) (W.iret hx hb hr (fun t ht _ => qx_i h ht hW) hW.2.2.2 d_PM_into_129)
                      · rw [if_neg c17] at h
                        refine lv_iconst (v := 0) hx hb d_PM_into_124 (by decide) ?_
                        refine lv_goto (tgt := 129) hx hb d_PM_into_125 (by decide) ?_
                        exact tx_leafx (some_fst h) (W.iret hx hb hr (fun t ht _ => qx_i h ht hW) hW.2.2.2 d_PM_into_129)
                    · rw [if_neg c15] at h
                      refine lv_iconst (v := 4) hx hb d_PM_into_111 (by decide) ?_
                      exact tx_leafx (some_fst h) (W.iret hx hb hr (fun t ht _ => qx_i h ht hW) hW.2.2.2 d_PM_into_112)
                  · rw [if_neg c11] at h
                    refine lv_iconst (v := 3) hx hb d_PM_into_89 (by decide) ?_
                    exact tx_leafx (some_fst h) (W.iret hx hb hr (fun t ht _ => qx_i h ht hW) hW.2.2.2 d_PM_into_90)
                · rw [if_pos c10] at h
                  refine lv_iconst (v := 2) hx hb d_PM_into_75 (by decide) ?_
                  exact tx_leafx (some_fst h) (W.iret hx hb hr (fun t ht _ => qx_i h ht hW) hW.2.2.2 d_PM_into_76)
              · rw [if_neg c8] at h
                refine lv_iconst (v := 1) hx hb d_PM_into_61 (by decide) ?_
                exact tx_leafx (some_fst h) (W.iret hx hb hr (fun t ht _ => qx_i h ht hW) hW.2.2.2 d_PM_into_62)
        · rw [if_neg z_r4] at h
          exact tx_lpx (some_fst h) (cl_PM_75_x (rest := []) C hfl (TE.ofS hTE hb0 hW) (hml.trans hl.1.symm) hW.1 g_r4 z_r4 ⟨Nat.le_of_ble_eq_true rfl, Nat.le_of_ble_eq_true rfl⟩ (Nat.le_of_ble_eq_true rfl) d_PM_into_31 (covers_of_empty hne _) hlocks (cE_x (some_fst h)) (fun _ _ t9 => qx_xi h z_r4 hW t9) hW.2.2.2)
      · rw [if_neg z_r3] at h
        exact tx_lpx (some_fst h) (cl_PM_68_x (rest := []) C hfl (TE.ofS hTE hb0 hW) (hml.trans hl.1.symm) hW.1 g_r3 z_r3 ⟨Nat.le_of_ble_eq_true rfl, Nat.le_of_ble_eq_true rfl⟩ (Nat.le_of_ble_eq_true rfl) d_PM_into_17 (covers_of_empty hne _) hlocks (cE_x (some_fst h)) (fun _ _ t9 => qx_xi h z_r3 hW t9) hW.2.2.2)
    · rw [if_neg z_r2] at h
      exact tx_lpx (some_fst h) (cl_PM_88_x (rest := []) C hfl (TE.ofS hTE hb0 hW) (hml.trans hl.1.symm) hW.1 g_r2 z_r2 ⟨Nat.le_of_ble_eq_true rfl, Nat.le_of_ble_eq_true rfl⟩ (Nat.le_of_ble_eq_true rfl) d_PM_into_7 (covers_of_empty hne _) hlocks (cE_x (some_fst h)) (fun _ _ t9 => qx_xi h z_r2 hW t9) hW.2.2.2)
  · rw [if_neg z_r1] at h
    exact tx_lpx (some_fst h) (cl_PM_88_x (rest := []) C hfl (TE.ofS hTE hb0 hW) (hml.trans hl.1.symm) hW.1 g_r1 z_r1 ⟨Nat.le_of_ble_eq_true rfl, Nat.le_of_ble_eq_true rfl⟩ (Nat.le_of_ble_eq_true rfl) d_PM_into_2 (covers_of_empty hne _) hlocks (cE_x (some_fst h)) (fun _ _ t9 => qx_xi h z_r1 hW t9) hW.2.2.2)
abbrev wl_PM_lost : List Cond := .code ⟨"PlaceMoves", "lost", "(II)Z"⟩ prog_1_method_9_code 4 (some FieldType.boolean) :: WG
set_option maxHeartbeats 4000000 in
set_option maxRecDepth 100000 in
theorem c_PM_lost (l : Launch) (hfl : l.flags = pinnedFlags ++ [noTraceFlag]) (b0 : Nat) (G : va_G) (ad : Nat → Nat) (cI cZ : ClassId) (hD : DX ad) (hb0 : ∀ k, k < 32 → b0 ≤ ad k) (σ : Sg) (a1 : Int32) (a2 : Int32) (out : Nat × Int32 × Sg) (h : f_PM_lost σ a1 a2 = some out) : tx_Met l ⟨"PlaceMoves", "lost", "(II)Z"⟩ wl_PM_lost (rmE 8 165 out.1) (PcT b0 G ad cI cZ σ [.ref (ad 0), .int a1, .int a2]) (QXi G ad cI cZ out) (cE out.1) (6 * cE out.1) (AX ad) := by
  refine tx_ofW (cc := prog_1_method_9_code) (maxL := 4) (ret := (some FieldType.boolean)) (by decide) rfl ?_
  intro p e s m args below meth c s₁ B hml hv
  obtain ⟨rfl, hP, hK, hTE⟩ := hv
  have hx := B.exec
  have hb := B.bytes
  have hr := B.returns
  have hts0 := atoms_spec (ws := wl_PM_lost) B.pre
  have hts : ∀ w ∈ WG, w.before _ s = true := fun w hw => hts0 w (List.mem_cons_of_mem _ hw)
  have hne := B.noHandlers (hts0 _ List.mem_cons_self)
  have hown : s.vm.findClass "PlaceMoves" = some m.cls := findClass_of_methodNamed B.named
  have hlocks := B.notSynchronized
  have C : CX "PlaceMoves" prog_1_method_9_code p s m _ c G cI cZ := ⟨hx, hb, hown, hts, hK⟩
  have hl := lv_entry ([.ref (ad 0), .int a1, .int a2]) (n := 4) (Nat.le_of_ble_eq_true rfl)
  rw [lg_entry_eq]
  generalize (lg_sl ([.ref (ad 0), .int a1, .int a2]) ++ List.replicate (4 - (lg_sl ([.ref (ad 0), .int a1, .int a2])).length) Slot.unset).toArray = ls at hl ⊢
  have hl : lv_has ls 4 [(0, .ref (ad 0)), (1, .int a1), (2, .int a2)] := hl
  unfold f_PM_lost at h
  have hW : WS G ad cI cZ s σ s.heap [] := ⟨hP, va_S.rf⟩
  refine lv_aload_n hx hb d_PM_lost_0 rfl (lv_at hl 0 rfl) ?_
  refine lv_iload_n hx hb d_PM_lost_1 rfl (lv_at hl 1 rfl) ?_
  obtain ⟨r1, g_r1, h⟩ := ob_some h
  by_cases z_r1 : r1 = 0
  · rw [if_pos z_r1] at h
    refine cl_PM_88 (rest := []) C hfl (TE.ofS hTE hb0 hW) (hml.trans hl.1.symm) hW.1 g_r1 z_r1 ⟨Nat.le_of_ble_eq_true rfl, Nat.le_of_ble_eq_true rfl⟩ (Nat.le_of_ble_eq_true rfl) d_PM_lost_2 ⟨Nat.zero_le _, Nat.zero_le _⟩ ?_
    refine lv_iload_n hx hb d_PM_lost_5 rfl (lv_at hl 2 rfl) ?_
    refine lv_aload_n hx hb d_PM_lost_6 rfl (lv_at hl 0 rfl) ?_
    refine gf_PM_59 C hW.1 d_PM_lost_7 ?_
    refine lv_ldc (v := 1000000) hx hb hown (hts _ w_343) d_PM_lost_10 ?_
    obtain ⟨r2, g_r2, h⟩ := ob_some h
    by_cases z_r2 : r2 = 0
    · rw [if_pos z_r2] at h
      refine cl_PM_68 (rest := []) C hfl (TE.ofS hTE hb0 hW) (hml.trans hl.1.symm) hW.1 g_r2 z_r2 ⟨Nat.le_of_ble_eq_true rfl, Nat.le_of_ble_eq_true rfl⟩ (Nat.le_of_ble_eq_true rfl) d_PM_lost_12 ⟨Nat.zero_le _, Nat.zero_le _⟩ ?_
      refine lv_aload_n hx hb d_PM_lost_15 rfl (lv_at hl 0 rfl) ?_
      refine gf_PM_26 C hW.1 d_PM_lost_16 ?_
      refine gf_PM_100 C hW.1 d_PM_lost_19 ?_
      refine lv_iload_n hx hb d_PM_lost_22 rfl (lv_at hl 1 rfl) ?_
      obtain ⟨hin, h⟩ := gd_some h
      refine al_17 C hW.1 hin d_PM_lost_23 ?_
      refine lv_bipush (v := 40) hx hb d_PM_lost_24 (by decide) ?_
      obtain ⟨r3, g_r3, h⟩ := ob_some h
      by_cases z_r3 : r3 = 0
      · rw [if_pos z_r3] at h
        refine cl_PM_75 (rest := []) C hfl (TE.ofS hTE hb0 hW) (hml.trans hl.1.symm) hW.1 g_r3 z_r3 ⟨Nat.le_of_ble_eq_true rfl, Nat.le_of_ble_eq_true rfl⟩ (Nat.le_of_ble_eq_true rfl) d_PM_lost_26 ⟨Nat.zero_le _, Nat.zero_le _⟩ ?_
        refine lv_aload_n hx hb d_PM_lost_29 rfl (lv_at hl 0 rfl) ?_
        refine gf_PM_26 C hW.1 d_PM_lost_30 ?_
        refine lv_iload_n hx hb d_PM_lost_33 rfl (lv_at hl 1 rfl) ?_
        refine lv_aload_n hx hb d_PM_lost_34 rfl (lv_at hl 0 rfl) ?_
        refine gf_PM_59 C hW.1 d_PM_lost_35 ?_
        obtain ⟨r4, g_r4, h⟩ := ob_some h
        refine cl_PM_123 (rest := []) C (hml.trans hl.1.symm) hW.1 g_r4 ⟨Nat.le_of_ble_eq_true rfl, Nat.le_of_ble_eq_true rfl⟩ (Nat.le_of_ble_eq_true rfl) d_PM_lost_38 ⟨Nat.zero_le _, Nat.zero_le _⟩ ?_
        refine lv_istore_n (lv' := [(3, .int r4), (0, .ref (ad 0)), (1, .int a1), (2, .int a2)]) hx hb d_PM_lost_41 rfl hl (by decide) rfl (fun ls hl => ?_)
        refine lv_iload_n hx hb d_PM_lost_42 rfl (lv_at hl 0 rfl) ?_
        refine lv_iconst (v := (-1)) hx hb d_PM_lost_43 (by decide) ?_
        refine lv_icmp_eq (tgt := 59) hx hb d_PM_lost_44 (by decide) (fun c5 => ?_) (fun c5 => ?_)
        · rw [if_pos c5] at h
          refine lv_iconst (v := 0) hx hb d_PM_lost_59 (by decide) ?_
          exact tx_leafx (some_fst h) (W.zret hx hb hr rfl (fun t ht _ => qx_i h ht hW) hW.2.2.2 d_PM_lost_60)
        · rw [if_neg c5] at h
          refine lv_aload_n hx hb d_PM_lost_47 rfl (lv_at hl 1 rfl) ?_
          refine gf_PM_26 C hW.1 d_PM_lost_48 ?_
          refine gf_PM_126 C hW.1 d_PM_lost_51 ?_
          refine lv_iload_n hx hb d_PM_lost_54 rfl (lv_at hl 0 rfl) ?_
          obtain ⟨hin, h⟩ := gd_some h
          refine al_19 C hW.1 hin d_PM_lost_55 ?_
          refine lv_if_eq (tgt := 61) hx hb d_PM_lost_56 (by decide) (fun c6 => ?_) (fun c6 => ?_)
          · rw [if_pos c6] at h
            refine lv_aload_n hx hb d_PM_lost_61 rfl (lv_at hl 1 rfl) ?_
            refine lv_iload_n hx hb d_PM_lost_62 rfl (lv_at hl 2 rfl) ?_
            refine lv_iload_n hx hb d_PM_lost_63 rfl (lv_at hl 3 rfl) ?_
            refine lv_iconst (v := 2) hx hb d_PM_lost_64 (by decide) ?_
            refine lv_iconst (v := (-1)) hx hb d_PM_lost_65 (by decide) ?_
            obtain ⟨r7, g_r7, h⟩ := ob_some h
            refine cl_PM_112 (rest := []) C hD (hml.trans hl.1.symm) hW g_r7 ⟨Nat.le_of_ble_eq_true rfl, Nat.le_of_ble_eq_true rfl⟩ (Nat.le_of_ble_eq_true rfl) d_PM_lost_66 ⟨Nat.zero_le _, Nat.zero_le _⟩ (fun H locs hW => ?_)
            obtain ⟨hin, h⟩ := gd_some h
            exact tx_leafx (some_fst h) (W.zret hx hb hr (isB_nar hin) (fun t ht _ => qx_i h ht hW) hW.2.2.2 d_PM_lost_69)
          · rw [if_neg c6] at h
            refine lv_iconst (v := 0) hx hb d_PM_lost_59 (by decide) ?_
            exact tx_leafx (some_fst h) (W.zret hx hb hr rfl (fun t ht _ => qx_i h ht hW) hW.2.2.2 d_PM_lost_60)
      · rw [if_neg z_r3] at h
        exact tx_lpx (some_fst h) (cl_PM_75_x (rest := []) C hfl (TE.ofS hTE hb0 hW) (hml.trans hl.1.symm) hW.1 g_r3 z_r3 ⟨Nat.le_of_ble_eq_true rfl, Nat.le_of_ble_eq_true rfl⟩ (Nat.le_of_ble_eq_true rfl) d_PM_lost_26 (covers_of_empty hne _) hlocks (cE_x (some_fst h)) (fun _ _ t9 => qx_xi h z_r3 hW t9) hW.2.2.2)
    · rw [if_neg z_r2] at h
      exact tx_lpx (some_fst h) (cl_PM_68_x (rest := []) C hfl (TE.ofS hTE hb0 hW) (hml.trans hl.1.symm) hW.1 g_r2 z_r2 ⟨Nat.le_of_ble_eq_true rfl, Nat.le_of_ble_eq_true rfl⟩ (Nat.le_of_ble_eq_true rfl) d_PM_lost_12 (covers_of_empty hne _) hlocks (cE_x (some_fst h)) (fun _ _ t9 => qx_xi h z_r2 hW t9) hW.2.2.2)
  · rw [if_neg z_r1] at h
    exact tx_lpx (some_fst h) (cl_PM_88_x (rest := []) C hfl (TE.ofS hTE hb0 hW) (hml.trans hl.1.symm) hW.1 g_r1 z_r1 ⟨Nat.le_of_ble_eq_true rfl, Nat.le_of_ble_eq_true rfl⟩ (Nat.le_of_ble_eq_true rfl) d_PM_lost_2 (covers_of_empty hne _) hlocks (cE_x (some_fst h)) (fun _ _ t9 => qx_xi h z_r1 hW t9) hW.2.2.2)
abbrev wl_PM_door : List Cond := .code ⟨"PlaceMoves", "door", "(IIII)I"⟩ prog_1_method_13_code 5 (some FieldType.int) :: WG
set_option maxHeartbeats 4000000 in
set_option maxRecDepth 100000 in
theorem c_PM_door (l : Launch) (hfl : l.flags = pinnedFlags ++ [noTraceFlag]) (b0 : Nat) (G : va_G) (ad : Nat → Nat) (cI cZ : ClassId) (hD : DX ad) (hb0 : ∀ k, k < 32 → b0 ≤ ad k) (σ : Sg) (a1 : Int32) (a2 : Int32) (a3 : Int32) (a4 : Int32) (out : Nat × Int32 × Sg) (h : f_PM_door σ a1 a2 a3 a4 = some out) : tx_Met l ⟨"PlaceMoves", "door", "(IIII)I"⟩ wl_PM_door (rmE 8 132 out.1) (PcT b0 G ad cI cZ σ [.ref (ad 0), .int a1, .int a2, .int a3, .int a4]) (QXi G ad cI cZ out) (cE out.1) (6 * cE out.1) (AX ad) := by
  refine tx_ofW (cc := prog_1_method_13_code) (maxL := 5) (ret := (some FieldType.int)) (by decide) rfl ?_
  intro p e s m args below meth c s₁ B hml hv
  obtain ⟨rfl, hP, hK, hTE⟩ := hv
  have hx := B.exec
  have hb := B.bytes
  have hr := B.returns
  have hts0 := atoms_spec (ws := wl_PM_door) B.pre
  have hts : ∀ w ∈ WG, w.before _ s = true := fun w hw => hts0 w (List.mem_cons_of_mem _ hw)
  have hne := B.noHandlers (hts0 _ List.mem_cons_self)
  have hown : s.vm.findClass "PlaceMoves" = some m.cls := findClass_of_methodNamed B.named
  have hlocks := B.notSynchronized
  have C : CX "PlaceMoves" prog_1_method_13_code p s m _ c G cI cZ := ⟨hx, hb, hown, hts, hK⟩
  have hl := lv_entry ([.ref (ad 0), .int a1, .int a2, .int a3, .int a4]) (n := 5) (Nat.le_of_ble_eq_true rfl)
  rw [lg_entry_eq]
  generalize (lg_sl ([.ref (ad 0), .int a1, .int a2, .int a3, .int a4]) ++ List.replicate (5 - (lg_sl ([.ref (ad 0), .int a1, .int a2, .int a3, .int a4])).length) Slot.unset).toArray = ls at hl ⊢
  have hl : lv_has ls 5 [(0, .ref (ad 0)), (1, .int a1), (2, .int a2), (3, .int a3), (4, .int a4)] := hl
  unfold f_PM_door at h
  have hW : WS G ad cI cZ s σ s.heap [] := ⟨hP, va_S.rf⟩
  refine lv_aload_n hx hb d_PM_door_0 rfl (lv_at hl 0 rfl) ?_
  refine lv_iload_n hx hb d_PM_door_1 rfl (lv_at hl 1 rfl) ?_
  obtain ⟨r1, g_r1, h⟩ := ob_some h
  by_cases z_r1 : r1 = 0
  · rw [if_pos z_r1] at h
    refine cl_PM_63 (rest := []) C hfl (TE.ofS hTE hb0 hW) (hml.trans hl.1.symm) hW.1 g_r1 z_r1 ⟨Nat.le_of_ble_eq_true rfl, Nat.le_of_ble_eq_true rfl⟩ (Nat.le_of_ble_eq_true rfl) d_PM_door_2 ⟨Nat.zero_le _, Nat.zero_le _⟩ ?_
    refine lv_aload_n hx hb d_PM_door_5 rfl (lv_at hl 0 rfl) ?_
    refine lv_iload_n hx hb d_PM_door_6 rfl (lv_at hl 2 rfl) ?_
    obtain ⟨r2, g_r2, h⟩ := ob_some h
    by_cases z_r2 : r2 = 0
    · rw [if_pos z_r2] at h
      refine cl_PM_63 (rest := []) C hfl (TE.ofS hTE hb0 hW) (hml.trans hl.1.symm) hW.1 g_r2 z_r2 ⟨Nat.le_of_ble_eq_true rfl, Nat.le_of_ble_eq_true rfl⟩ (Nat.le_of_ble_eq_true rfl) d_PM_door_7 ⟨Nat.zero_le _, Nat.zero_le _⟩ ?_
      refine lv_iload_n hx hb d_PM_door_10 rfl (lv_at hl 1 rfl) ?_
      refine lv_iload_n hx hb d_PM_door_11 rfl (lv_at hl 2 rfl) ?_
      refine lv_icmp_ne (tgt := 25) hx hb d_PM_door_12 (by decide) (fun c3 => ?_) (fun c3 => ?_)
      · rw [if_neg c3] at h
        refine lv_iload_n hx hb d_PM_door_25 rfl (lv_at hl 3 rfl) ?_
        refine lv_iconst (v := 1) hx hb d_PM_door_26 (by decide) ?_
        refine lv_sipush (v := 10000) hx hb d_PM_door_27 (by decide) ?_
        obtain ⟨r4, g_r4, h⟩ := ob_some h
        by_cases z_r4 : r4 = 0
        · rw [if_pos z_r4] at h
          refine cl_PM_68 (rest := []) C hfl (TE.ofS hTE hb0 hW) (hml.trans hl.1.symm) hW.1 g_r4 z_r4 ⟨Nat.le_of_ble_eq_true rfl, Nat.le_of_ble_eq_true rfl⟩ (Nat.le_of_ble_eq_true rfl) d_PM_door_30 ⟨Nat.zero_le _, Nat.zero_le _⟩ ?_
          refine lv_iload hx hb d_PM_door_33 (lv_at hl 4 rfl) ?_
          refine lv_iconst (v := 1) hx hb d_PM_door_35 (by decide) ?_
          refine lv_sipush (v := 10000) hx hb d_PM_door_36 (by decide) ?_
          obtain ⟨r5, g_r5, h⟩ := ob_some h
          by_cases z_r5 : r5 = 0
          · rw [if_pos z_r5] at h
            refine cl_PM_68 (rest := []) C hfl (TE.ofS hTE hb0 hW) (hml.trans hl.1.symm) hW.1 g_r5 z_r5 ⟨Nat.le_of_ble_eq_true rfl, Nat.le_of_ble_eq_true rfl⟩ (Nat.le_of_ble_eq_true rfl) d_PM_door_39 ⟨Nat.zero_le _, Nat.zero_le _⟩ ?_
            refine lv_aload_n hx hb d_PM_door_42 rfl (lv_at hl 0 rfl) ?_
            refine gf_PM_33 C hW.1 d_PM_door_43 ?_
            refine gf_PM_151 C hW.1 d_PM_door_46 ?_
            refine lv_bipush (v := 40) hx hb d_PM_door_49 (by decide) ?_
            obtain ⟨r6, g_r6, h⟩ := ob_some h
            by_cases z_r6 : r6 = 0
            · rw [if_pos z_r6] at h
              refine cl_PM_75 (rest := []) C hfl (TE.ofS hTE hb0 hW) (hml.trans hl.1.symm) hW.1 g_r6 z_r6 ⟨Nat.le_of_ble_eq_true rfl, Nat.le_of_ble_eq_true rfl⟩ (Nat.le_of_ble_eq_true rfl) d_PM_door_51 ⟨Nat.zero_le _, Nat.zero_le _⟩ ?_
              refine lv_aload_n hx hb d_PM_door_54 rfl (lv_at hl 0 rfl) ?_
              refine gf_PM_33 C hW.1 d_PM_door_55 ?_
              refine lv_iload_n hx hb d_PM_door_58 rfl (lv_at hl 1 rfl) ?_
              refine lv_iload_n hx hb d_PM_door_59 rfl (lv_at hl 2 rfl) ?_
              refine lv_iload_n hx hb d_PM_door_60 rfl (lv_at hl 3 rfl) ?_
              refine lv_iload hx hb d_PM_door_61 (lv_at hl 4 rfl) ?_
              obtain ⟨r7, g_r7, h⟩ := ob_some h
              refine cl_PM_152 (rest := []) C hD (hml.trans hl.1.symm) hW g_r7 ⟨Nat.le_of_ble_eq_true rfl, Nat.le_of_ble_eq_true rfl⟩ (Nat.le_of_ble_eq_true rfl) d_PM_door_63 ⟨Nat.zero_le _, Nat.zero_le _⟩ (fun H locs hW => ?_)
              exact tx_leafx (some_fst h) (W.iret hx hb hr (fun t ht _ => qx_i h ht hW) hW.2.2.2 d_PM_door_66)
            · rw [if_neg z_r6] at h
              exact tx_lpx (some_fst h) (cl_PM_75_x (rest := []) C hfl (TE.ofS hTE hb0 hW) (hml.trans hl.1.symm) hW.1 g_r6 z_r6 ⟨Nat.le_of_ble_eq_true rfl, Nat.le_of_ble_eq_true rfl⟩ (Nat.le_of_ble_eq_true rfl) d_PM_door_51 (covers_of_empty hne _) hlocks (cE_x (some_fst h)) (fun _ _ t9 => qx_xi h z_r6 hW t9) hW.2.2.2)
          · rw [if_neg z_r5] at h
            exact tx_lpx (some_fst h) (cl_PM_68_x (rest := []) C hfl (TE.ofS hTE hb0 hW) (hml.trans hl.1.symm) hW.1 g_r5 z_r5 ⟨Nat.le_of_ble_eq_true rfl, Nat.le_of_ble_eq_true rfl⟩ (Nat.le_of_ble_eq_true rfl) d_PM_door_39 (covers_of_empty hne _) hlocks (cE_x (some_fst h)) (fun _ _ t9 => qx_xi h z_r5 hW t9) hW.2.2.2)
        · rw [if_neg z_r4] at h
          exact tx_lpx (some_fst h) (cl_PM_68_x (rest := []) C hfl (TE.ofS hTE hb0 hW) (hml.trans hl.1.symm) hW.1 g_r4 z_r4 ⟨Nat.le_of_ble_eq_true rfl, Nat.le_of_ble_eq_true rfl⟩ (Nat.le_of_ble_eq_true rfl) d_PM_door_30 (covers_of_empty hne _) hlocks (cE_x (some_fst h)) (fun _ _ t9 => qx_xi h z_r4 hW t9) hW.2.2.2)
      · rw [if_pos c3] at h
        exact tx_lnx (some_fst h) (by decide) (nw_PM_144_146 C hfl hTE (hml.trans hl.1.symm) d_PM_door_15 d_PM_door_18 d_PM_door_19 d_PM_door_21 d_PM_door_24 (covers_of_empty hne _) hlocks (cE_x1 (some_fst h) (by decide)) ⟨Nat.le_of_ble_eq_true rfl, Nat.le_of_ble_eq_true rfl⟩ (Nat.le_of_ble_eq_true rfl) (fun t t9 => qx_xi h (by decide) hW t9))
    · rw [if_neg z_r2] at h
      exact tx_lpx (some_fst h) (cl_PM_63_x (rest := []) C hfl (TE.ofS hTE hb0 hW) (hml.trans hl.1.symm) hW.1 g_r2 z_r2 ⟨Nat.le_of_ble_eq_true rfl, Nat.le_of_ble_eq_true rfl⟩ (Nat.le_of_ble_eq_true rfl) d_PM_door_7 (covers_of_empty hne _) hlocks (cE_x (some_fst h)) (fun _ _ t9 => qx_xi h z_r2 hW t9) hW.2.2.2)
  · rw [if_neg z_r1] at h
    exact tx_lpx (some_fst h) (cl_PM_63_x (rest := []) C hfl (TE.ofS hTE hb0 hW) (hml.trans hl.1.symm) hW.1 g_r1 z_r1 ⟨Nat.le_of_ble_eq_true rfl, Nat.le_of_ble_eq_true rfl⟩ (Nat.le_of_ble_eq_true rfl) d_PM_door_2 (covers_of_empty hne _) hlocks (cE_x (some_fst h)) (fun _ _ t9 => qx_xi h z_r1 hW t9) hW.2.2.2)
abbrev wl_PM_planned : List Cond := .code ⟨"PlaceMoves", "planned", "(IIII)I"⟩ prog_1_method_16_code 5 (some FieldType.int) :: WG
set_option maxHeartbeats 4000000 in
set_option maxRecDepth 100000 in
theorem c_PM_planned (l : Launch) (hfl : l.flags = pinnedFlags ++ [noTraceFlag]) (b0 : Nat) (G : va_G) (ad : Nat → Nat) (cI cZ : ClassId) (hD : DX ad) (hb0 : ∀ k, k < 32 → b0 ≤ ad k) (σ : Sg) (a1 : Int32) (a2 : Int32) (a3 : Int32) (a4 : Int32) (out : Nat × Int32 × Sg) (h : f_PM_planned σ a1 a2 a3 a4 = some out) : tx_Met l ⟨"PlaceMoves", "planned", "(IIII)I"⟩ wl_PM_planned (rmE 8 140 out.1) (PcT b0 G ad cI cZ σ [.ref (ad 0), .int a1, .int a2, .int a3, .int a4]) (QXi G ad cI cZ out) (cE out.1) (6 * cE out.1) (AX ad) := by
  refine tx_ofW (cc := prog_1_method_16_code) (maxL := 5) (ret := (some FieldType.int)) (by decide) rfl ?_
  intro p e s m args below meth c s₁ B hml hv
  obtain ⟨rfl, hP, hK, hTE⟩ := hv
  have hx := B.exec
  have hb := B.bytes
  have hr := B.returns
  have hts0 := atoms_spec (ws := wl_PM_planned) B.pre
  have hts : ∀ w ∈ WG, w.before _ s = true := fun w hw => hts0 w (List.mem_cons_of_mem _ hw)
  have hne := B.noHandlers (hts0 _ List.mem_cons_self)
  have hown : s.vm.findClass "PlaceMoves" = some m.cls := findClass_of_methodNamed B.named
  have hlocks := B.notSynchronized
  have C : CX "PlaceMoves" prog_1_method_16_code p s m _ c G cI cZ := ⟨hx, hb, hown, hts, hK⟩
  have hl := lv_entry ([.ref (ad 0), .int a1, .int a2, .int a3, .int a4]) (n := 5) (Nat.le_of_ble_eq_true rfl)
  rw [lg_entry_eq]
  generalize (lg_sl ([.ref (ad 0), .int a1, .int a2, .int a3, .int a4]) ++ List.replicate (5 - (lg_sl ([.ref (ad 0), .int a1, .int a2, .int a3, .int a4])).length) Slot.unset).toArray = ls at hl ⊢
  have hl : lv_has ls 5 [(0, .ref (ad 0)), (1, .int a1), (2, .int a2), (3, .int a3), (4, .int a4)] := hl
  unfold f_PM_planned at h
  have hW : WS G ad cI cZ s σ s.heap [] := ⟨hP, va_S.rf⟩
  refine lv_aload_n hx hb d_PM_planned_0 rfl (lv_at hl 0 rfl) ?_
  refine lv_iload_n hx hb d_PM_planned_1 rfl (lv_at hl 1 rfl) ?_
  obtain ⟨r1, g_r1, h⟩ := ob_some h
  by_cases z_r1 : r1 = 0
  · rw [if_pos z_r1] at h
    refine cl_PM_88 (rest := []) C hfl (TE.ofS hTE hb0 hW) (hml.trans hl.1.symm) hW.1 g_r1 z_r1 ⟨Nat.le_of_ble_eq_true rfl, Nat.le_of_ble_eq_true rfl⟩ (Nat.le_of_ble_eq_true rfl) d_PM_planned_2 ⟨Nat.zero_le _, Nat.zero_le _⟩ ?_
    refine lv_aload_n hx hb d_PM_planned_5 rfl (lv_at hl 0 rfl) ?_
    refine lv_iload_n hx hb d_PM_planned_6 rfl (lv_at hl 2 rfl) ?_
    obtain ⟨r2, g_r2, h⟩ := ob_some h
    by_cases z_r2 : r2 = 0
    · rw [if_pos z_r2] at h
      refine cl_PM_63 (rest := []) C hfl (TE.ofS hTE hb0 hW) (hml.trans hl.1.symm) hW.1 g_r2 z_r2 ⟨Nat.le_of_ble_eq_true rfl, Nat.le_of_ble_eq_true rfl⟩ (Nat.le_of_ble_eq_true rfl) d_PM_planned_7 ⟨Nat.zero_le _, Nat.zero_le _⟩ ?_
      refine lv_iload_n hx hb d_PM_planned_10 rfl (lv_at hl 3 rfl) ?_
      refine lv_aload_n hx hb d_PM_planned_11 rfl (lv_at hl 0 rfl) ?_
      refine gf_PM_59 C hW.1 d_PM_planned_12 ?_
      refine lv_ldc (v := 1000000) hx hb hown (hts _ w_343) d_PM_planned_15 ?_
      obtain ⟨r3, g_r3, h⟩ := ob_some h
      by_cases z_r3 : r3 = 0
      · rw [if_pos z_r3] at h
        refine cl_PM_68 (rest := []) C hfl (TE.ofS hTE hb0 hW) (hml.trans hl.1.symm) hW.1 g_r3 z_r3 ⟨Nat.le_of_ble_eq_true rfl, Nat.le_of_ble_eq_true rfl⟩ (Nat.le_of_ble_eq_true rfl) d_PM_planned_17 ⟨Nat.zero_le _, Nat.zero_le _⟩ ?_
        refine lv_iload hx hb d_PM_planned_20 (lv_at hl 4 rfl) ?_
        refine lv_iload_n hx hb d_PM_planned_22 rfl (lv_at hl 3 rfl) ?_
        refine lv_ldc (v := 1000000) hx hb hown (hts _ w_343) d_PM_planned_23 ?_
        obtain ⟨r4, g_r4, h⟩ := ob_some h
        by_cases z_r4 : r4 = 0
        · rw [if_pos z_r4] at h
          refine cl_PM_68 (rest := []) C hfl (TE.ofS hTE hb0 hW) (hml.trans hl.1.symm) hW.1 g_r4 z_r4 ⟨Nat.le_of_ble_eq_true rfl, Nat.le_of_ble_eq_true rfl⟩ (Nat.le_of_ble_eq_true rfl) d_PM_planned_25 ⟨Nat.zero_le _, Nat.zero_le _⟩ ?_
          refine lv_aload_n hx hb d_PM_planned_28 rfl (lv_at hl 0 rfl) ?_
          refine gf_PM_40 C hW.1 d_PM_planned_29 ?_
          refine gf_PM_164 C hW.1 d_PM_planned_32 ?_
          refine lv_bipush (v := 30) hx hb d_PM_planned_35 (by decide) ?_
          obtain ⟨r5, g_r5, h⟩ := ob_some h
          by_cases z_r5 : r5 = 0
          · rw [if_pos z_r5] at h
            refine cl_PM_75 (rest := []) C hfl (TE.ofS hTE hb0 hW) (hml.trans hl.1.symm) hW.1 g_r5 z_r5 ⟨Nat.le_of_ble_eq_true rfl, Nat.le_of_ble_eq_true rfl⟩ (Nat.le_of_ble_eq_true rfl) d_PM_planned_37 ⟨Nat.zero_le _, Nat.zero_le _⟩ ?_
            refine lv_aload_n hx hb d_PM_planned_40 rfl (lv_at hl 0 rfl) ?_
            refine gf_PM_40 C hW.1 d_PM_planned_41 ?_
            refine lv_iload_n hx hb d_PM_planned_44 rfl (lv_at hl 1 rfl) ?_
            refine lv_iload_n hx hb d_PM_planned_45 rfl (lv_at hl 2 rfl) ?_
            refine lv_iload_n hx hb d_PM_planned_46 rfl (lv_at hl 3 rfl) ?_
            refine lv_iload hx hb d_PM_planned_47 (lv_at hl 4 rfl) ?_
            obtain ⟨r6, g_r6, h⟩ := ob_some h
            refine cl_PM_165 (rest := []) C hD (hml.trans hl.1.symm) hW g_r6 ⟨Nat.le_of_ble_eq_true rfl, Nat.le_of_ble_eq_true rfl⟩ (Nat.le_of_ble_eq_true rfl) d_PM_planned_49 ⟨Nat.zero_le _, Nat.zero_le _⟩ (fun H locs hW => ?_)
            refine lv_aload_n hx hb d_PM_planned_52 rfl (lv_at hl 0 rfl) ?_
            refine lv_iload_n hx hb d_PM_planned_53 rfl (lv_at hl 2 rfl) ?_
            refine lv_iload_n hx hb d_PM_planned_54 rfl (lv_at hl 3 rfl) ?_
            refine lv_iload hx hb d_PM_planned_55 (lv_at hl 4 rfl) ?_
            obtain ⟨r7, g_r7, h⟩ := ob_some h
            refine cl_PM_168 (rest := []) C hD (hml.trans hl.1.symm) hW g_r7 ⟨Nat.le_of_ble_eq_true rfl, Nat.le_of_ble_eq_true rfl⟩ (Nat.le_of_ble_eq_true rfl) d_PM_planned_57 ⟨Nat.zero_le _, Nat.zero_le _⟩ (fun H locs hW => ?_)
            refine lv_if_eq (tgt := 65) hx hb d_PM_planned_60 (by decide) (fun c8 => ?_) (fun c8 => ?_)
            · rw [if_pos c8] at h
              refine lv_aload_n hx hb d_PM_planned_65 rfl (lv_at hl 0 rfl) ?_
              refine gf_PM_40 C hW.1 d_PM_planned_66 ?_
              obtain ⟨r9, g_r9, h⟩ := ob_some h
              refine cl_PM_171 (rest := []) C hD (hml.trans hl.1.symm) hW g_r9 ⟨Nat.le_of_ble_eq_true rfl, Nat.le_of_ble_eq_true rfl⟩ (Nat.le_of_ble_eq_true rfl) d_PM_planned_69 ⟨Nat.zero_le _, Nat.zero_le _⟩ (fun H locs hW => ?_)
              refine lv_iconst (v := 1) hx hb d_PM_planned_72 (by decide) ?_
              exact tx_leafx (some_fst h) (W.iret hx hb hr (fun t ht _ => qx_i h ht hW) hW.2.2.2 d_PM_planned_73)
            · rw [if_neg c8] at h
              refine lv_iconst (v := 0) hx hb d_PM_planned_63 (by decide) ?_
              exact tx_leafx (some_fst h) (W.iret hx hb hr (fun t ht _ => qx_i h ht hW) hW.2.2.2 d_PM_planned_64)
          · rw [if_neg z_r5] at h
            exact tx_lpx (some_fst h) (cl_PM_75_x (rest := []) C hfl (TE.ofS hTE hb0 hW) (hml.trans hl.1.symm) hW.1 g_r5 z_r5 ⟨Nat.le_of_ble_eq_true rfl, Nat.le_of_ble_eq_true rfl⟩ (Nat.le_of_ble_eq_true rfl) d_PM_planned_37 (covers_of_empty hne _) hlocks (cE_x (some_fst h)) (fun _ _ t9 => qx_xi h z_r5 hW t9) hW.2.2.2)
        · rw [if_neg z_r4] at h
          exact tx_lpx (some_fst h) (cl_PM_68_x (rest := []) C hfl (TE.ofS hTE hb0 hW) (hml.trans hl.1.symm) hW.1 g_r4 z_r4 ⟨Nat.le_of_ble_eq_true rfl, Nat.le_of_ble_eq_true rfl⟩ (Nat.le_of_ble_eq_true rfl) d_PM_planned_25 (covers_of_empty hne _) hlocks (cE_x (some_fst h)) (fun _ _ t9 => qx_xi h z_r4 hW t9) hW.2.2.2)
      · rw [if_neg z_r3] at h
        exact tx_lpx (some_fst h) (cl_PM_68_x (rest := []) C hfl (TE.ofS hTE hb0 hW) (hml.trans hl.1.symm) hW.1 g_r3 z_r3 ⟨Nat.le_of_ble_eq_true rfl, Nat.le_of_ble_eq_true rfl⟩ (Nat.le_of_ble_eq_true rfl) d_PM_planned_17 (covers_of_empty hne _) hlocks (cE_x (some_fst h)) (fun _ _ t9 => qx_xi h z_r3 hW t9) hW.2.2.2)
    · rw [if_neg z_r2] at h
      exact tx_lpx (some_fst h) (cl_PM_63_x (rest := []) C hfl (TE.ofS hTE hb0 hW) (hml.trans hl.1.symm) hW.1 g_r2 z_r2 ⟨Nat.le_of_ble_eq_true rfl, Nat.le_of_ble_eq_true rfl⟩ (Nat.le_of_ble_eq_true rfl) d_PM_planned_7 (covers_of_empty hne _) hlocks (cE_x (some_fst h)) (fun _ _ t9 => qx_xi h z_r2 hW t9) hW.2.2.2)
  · rw [if_neg z_r1] at h
    exact tx_lpx (some_fst h) (cl_PM_88_x (rest := []) C hfl (TE.ofS hTE hb0 hW) (hml.trans hl.1.symm) hW.1 g_r1 z_r1 ⟨Nat.le_of_ble_eq_true rfl, Nat.le_of_ble_eq_true rfl⟩ (Nat.le_of_ble_eq_true rfl) d_PM_planned_2 (covers_of_empty hne _) hlocks (cE_x (some_fst h)) (fun _ _ t9 => qx_xi h z_r1 hW t9) hW.2.2.2)
abbrev wl_PM_used : List Cond := .code ⟨"PlaceMoves", "used", "(II)I"⟩ prog_1_method_17_code 3 (some FieldType.int) :: WG
set_option maxHeartbeats 4000000 in
set_option maxRecDepth 100000 in
theorem c_PM_used (l : Launch) (hfl : l.flags = pinnedFlags ++ [noTraceFlag]) (b0 : Nat) (G : va_G) (ad : Nat → Nat) (cI cZ : ClassId) (hD : DX ad) (hb0 : ∀ k, k < 32 → b0 ≤ ad k) (σ : Sg) (a1 : Int32) (a2 : Int32) (out : Nat × Int32 × Sg) (h : f_PM_used σ a1 a2 = some out) : tx_Met l ⟨"PlaceMoves", "used", "(II)I"⟩ wl_PM_used (rmE 8 132 out.1) (PcT b0 G ad cI cZ σ [.ref (ad 0), .int a1, .int a2]) (QXi G ad cI cZ out) (cE out.1) (6 * cE out.1) (AX ad) := by
  refine tx_ofW (cc := prog_1_method_17_code) (maxL := 3) (ret := (some FieldType.int)) (by decide) rfl ?_
  intro p e s m args below meth c s₁ B hml hv
  obtain ⟨rfl, hP, hK, hTE⟩ := hv
  have hx := B.exec
  have hb := B.bytes
  have hr := B.returns
  have hts0 := atoms_spec (ws := wl_PM_used) B.pre
  have hts : ∀ w ∈ WG, w.before _ s = true := fun w hw => hts0 w (List.mem_cons_of_mem _ hw)
  have hne := B.noHandlers (hts0 _ List.mem_cons_self)
  have hown : s.vm.findClass "PlaceMoves" = some m.cls := findClass_of_methodNamed B.named
  have hlocks := B.notSynchronized
  have C : CX "PlaceMoves" prog_1_method_17_code p s m _ c G cI cZ := ⟨hx, hb, hown, hts, hK⟩
  have hl := lv_entry ([.ref (ad 0), .int a1, .int a2]) (n := 3) (Nat.le_of_ble_eq_true rfl)
  rw [lg_entry_eq]
  generalize (lg_sl ([.ref (ad 0), .int a1, .int a2]) ++ List.replicate (3 - (lg_sl ([.ref (ad 0), .int a1, .int a2])).length) Slot.unset).toArray = ls at hl ⊢
  have hl : lv_has ls 3 [(0, .ref (ad 0)), (1, .int a1), (2, .int a2)] := hl
  unfold f_PM_used at h
  have hW : WS G ad cI cZ s σ s.heap [] := ⟨hP, va_S.rf⟩
  refine lv_aload_n hx hb d_PM_used_0 rfl (lv_at hl 0 rfl) ?_
  refine lv_iload_n hx hb d_PM_used_1 rfl (lv_at hl 1 rfl) ?_
  obtain ⟨r1, g_r1, h⟩ := ob_some h
  by_cases z_r1 : r1 = 0
  · rw [if_pos z_r1] at h
    refine cl_PM_63 (rest := []) C hfl (TE.ofS hTE hb0 hW) (hml.trans hl.1.symm) hW.1 g_r1 z_r1 ⟨Nat.le_of_ble_eq_true rfl, Nat.le_of_ble_eq_true rfl⟩ (Nat.le_of_ble_eq_true rfl) d_PM_used_2 ⟨Nat.zero_le _, Nat.zero_le _⟩ ?_
    refine lv_aload_n hx hb d_PM_used_5 rfl (lv_at hl 0 rfl) ?_
    refine lv_iload_n hx hb d_PM_used_6 rfl (lv_at hl 2 rfl) ?_
    obtain ⟨r2, g_r2, h⟩ := ob_some h
    refine cl_PM_174 (rest := []) C hD (hml.trans hl.1.symm) hW g_r2 ⟨Nat.le_of_ble_eq_true rfl, Nat.le_of_ble_eq_true rfl⟩ (Nat.le_of_ble_eq_true rfl) d_PM_used_7 ⟨Nat.zero_le _, Nat.zero_le _⟩ (fun H locs hW => ?_)
    refine lv_aload_n hx hb d_PM_used_10 rfl (lv_at hl 0 rfl) ?_
    refine lv_iload_n hx hb d_PM_used_11 rfl (lv_at hl 1 rfl) ?_
    obtain ⟨r3, g_r3, h⟩ := ob_some h
    refine cl_PM_177 (rest := []) C (hml.trans hl.1.symm) hW.1 g_r3 ⟨Nat.le_of_ble_eq_true rfl, Nat.le_of_ble_eq_true rfl⟩ (Nat.le_of_ble_eq_true rfl) d_PM_used_12 ⟨Nat.zero_le _, Nat.zero_le _⟩ ?_
    exact tx_leafx (some_fst h) (W.iret hx hb hr (fun t ht _ => qx_i h ht hW) hW.2.2.2 d_PM_used_15)
  · rw [if_neg z_r1] at h
    exact tx_lpx (some_fst h) (cl_PM_63_x (rest := []) C hfl (TE.ofS hTE hb0 hW) (hml.trans hl.1.symm) hW.1 g_r1 z_r1 ⟨Nat.le_of_ble_eq_true rfl, Nat.le_of_ble_eq_true rfl⟩ (Nat.le_of_ble_eq_true rfl) d_PM_used_2 (covers_of_empty hne _) hlocks (cE_x (some_fst h)) (fun _ _ t9 => qx_xi h z_r1 hW t9) hW.2.2.2)
abbrev wl_PM_quiet : List Cond := .code ⟨"PlaceMoves", "quiet", "(III)V"⟩ prog_1_method_18_code 4 none :: WG
set_option maxHeartbeats 4000000 in
set_option maxRecDepth 100000 in
theorem c_PM_quiet (l : Launch) (hfl : l.flags = pinnedFlags ++ [noTraceFlag]) (b0 : Nat) (G : va_G) (ad : Nat → Nat) (cI cZ : ClassId) (hD : DX ad) (hb0 : ∀ k, k < 32 → b0 ≤ ad k) (σ : Sg) (a1 : Int32) (a2 : Int32) (a3 : Int32) (out : Nat × Sg) (h : f_PM_quiet σ a1 a2 a3 = some out) : tx_Met l ⟨"PlaceMoves", "quiet", "(III)V"⟩ wl_PM_quiet (rmE 8 132 out.1) (PcT b0 G ad cI cZ σ [.ref (ad 0), .int a1, .int a2, .int a3]) (QXv G ad cI cZ out) (cE out.1) (6 * cE out.1) (AX ad) := by
  refine tx_ofW (cc := prog_1_method_18_code) (maxL := 4) (ret := none) (by decide) rfl ?_
  intro p e s m args below meth c s₁ B hml hv
  obtain ⟨rfl, hP, hK, hTE⟩ := hv
  have hx := B.exec
  have hb := B.bytes
  have hr := B.returns
  have hts0 := atoms_spec (ws := wl_PM_quiet) B.pre
  have hts : ∀ w ∈ WG, w.before _ s = true := fun w hw => hts0 w (List.mem_cons_of_mem _ hw)
  have hne := B.noHandlers (hts0 _ List.mem_cons_self)
  have hown : s.vm.findClass "PlaceMoves" = some m.cls := findClass_of_methodNamed B.named
  have hlocks := B.notSynchronized
  have C : CX "PlaceMoves" prog_1_method_18_code p s m _ c G cI cZ := ⟨hx, hb, hown, hts, hK⟩
  have hl := lv_entry ([.ref (ad 0), .int a1, .int a2, .int a3]) (n := 4) (Nat.le_of_ble_eq_true rfl)
  rw [lg_entry_eq]
  generalize (lg_sl ([.ref (ad 0), .int a1, .int a2, .int a3]) ++ List.replicate (4 - (lg_sl ([.ref (ad 0), .int a1, .int a2, .int a3])).length) Slot.unset).toArray = ls at hl ⊢
  have hl : lv_has ls 4 [(0, .ref (ad 0)), (1, .int a1), (2, .int a2), (3, .int a3)] := hl
  unfold f_PM_quiet at h
  have hW : WS G ad cI cZ s σ s.heap [] := ⟨hP, va_S.rf⟩
  refine lv_aload_n hx hb d_PM_quiet_0 rfl (lv_at hl 0 rfl) ?_
  refine lv_iload_n hx hb d_PM_quiet_1 rfl (lv_at hl 1 rfl) ?_
  obtain ⟨r1, g_r1, h⟩ := ob_some h
  by_cases z_r1 : r1 = 0
  · rw [if_pos z_r1] at h
    refine cl_PM_63 (rest := []) C hfl (TE.ofS hTE hb0 hW) (hml.trans hl.1.symm) hW.1 g_r1 z_r1 ⟨Nat.le_of_ble_eq_true rfl, Nat.le_of_ble_eq_true rfl⟩ (Nat.le_of_ble_eq_true rfl) d_PM_quiet_2 ⟨Nat.zero_le _, Nat.zero_le _⟩ ?_
    refine lv_iload_n hx hb d_PM_quiet_5 rfl (lv_at hl 2 rfl) ?_
    refine lv_if_lt (tgt := 14) hx hb d_PM_quiet_6 (by decide) (fun c2 => ?_) (fun c2 => ?_)
    · rw [if_pos c2] at h
      exact tx_lnx (some_fst h) (by decide) (nw_PM_144_181 C hfl hTE (hml.trans hl.1.symm) d_PM_quiet_14 d_PM_quiet_17 d_PM_quiet_18 d_PM_quiet_20 d_PM_quiet_23 (covers_of_empty hne _) hlocks (cE_x1 (some_fst h) (by decide)) ⟨Nat.le_of_ble_eq_true rfl, Nat.le_of_ble_eq_true rfl⟩ (Nat.le_of_ble_eq_true rfl) (fun t t9 => qx_xv h (by decide) hW t9))
    · rw [if_neg c2] at h
      refine lv_iload_n hx hb d_PM_quiet_9 rfl (lv_at hl 3 rfl) ?_
      refine lv_iload_n hx hb d_PM_quiet_10 rfl (lv_at hl 2 rfl) ?_
      refine lv_icmp_ge (tgt := 24) hx hb d_PM_quiet_11 (by decide) (fun c3 => ?_) (fun c3 => ?_)
      · rw [if_pos c3] at h
        refine lv_aload_n hx hb d_PM_quiet_24 rfl (lv_at hl 0 rfl) ?_
        refine gf_PM_47 C hW.1 d_PM_quiet_25 ?_
        refine gf_PM_183 C hW.1 d_PM_quiet_28 ?_
        refine lv_bipush (v := 20) hx hb d_PM_quiet_31 (by decide) ?_
        obtain ⟨r4, g_r4, h⟩ := ob_some h
        by_cases z_r4 : r4 = 0
        · rw [if_pos z_r4] at h
          refine cl_PM_75 (rest := []) C hfl (TE.ofS hTE hb0 hW) (hml.trans hl.1.symm) hW.1 g_r4 z_r4 ⟨Nat.le_of_ble_eq_true rfl, Nat.le_of_ble_eq_true rfl⟩ (Nat.le_of_ble_eq_true rfl) d_PM_quiet_33 ⟨Nat.zero_le _, Nat.zero_le _⟩ ?_
          refine lv_aload_n hx hb d_PM_quiet_36 rfl (lv_at hl 0 rfl) ?_
          refine gf_PM_47 C hW.1 d_PM_quiet_37 ?_
          refine lv_iload_n hx hb d_PM_quiet_40 rfl (lv_at hl 1 rfl) ?_
          refine lv_iload_n hx hb d_PM_quiet_41 rfl (lv_at hl 2 rfl) ?_
          refine lv_iload_n hx hb d_PM_quiet_42 rfl (lv_at hl 3 rfl) ?_
          obtain ⟨r5, g_r5, h⟩ := ob_some h
          refine cl_PM_184 (rest := []) C hD (hml.trans hl.1.symm) hW g_r5 ⟨Nat.le_of_ble_eq_true rfl, Nat.le_of_ble_eq_true rfl⟩ (Nat.le_of_ble_eq_true rfl) d_PM_quiet_43 ⟨Nat.zero_le _, Nat.zero_le _⟩ (fun H locs hW => ?_)
          exact tx_leafx (some_fst h) (W.vret hx hb hr (fun t ht _ => qx_v h ht hW) hW.2.2.2 d_PM_quiet_46)
        · rw [if_neg z_r4] at h
          exact tx_lpx (some_fst h) (cl_PM_75_x (rest := []) C hfl (TE.ofS hTE hb0 hW) (hml.trans hl.1.symm) hW.1 g_r4 z_r4 ⟨Nat.le_of_ble_eq_true rfl, Nat.le_of_ble_eq_true rfl⟩ (Nat.le_of_ble_eq_true rfl) d_PM_quiet_33 (covers_of_empty hne _) hlocks (cE_x (some_fst h)) (fun _ _ t9 => qx_xv h z_r4 hW t9) hW.2.2.2)
      · rw [if_neg c3] at h
        exact tx_lnx (some_fst h) (by decide) (nw_PM_144_181 C hfl hTE (hml.trans hl.1.symm) d_PM_quiet_14 d_PM_quiet_17 d_PM_quiet_18 d_PM_quiet_20 d_PM_quiet_23 (covers_of_empty hne _) hlocks (cE_x1 (some_fst h) (by decide)) ⟨Nat.le_of_ble_eq_true rfl, Nat.le_of_ble_eq_true rfl⟩ (Nat.le_of_ble_eq_true rfl) (fun t t9 => qx_xv h (by decide) hW t9))
  · rw [if_neg z_r1] at h
    exact tx_lpx (some_fst h) (cl_PM_63_x (rest := []) C hfl (TE.ofS hTE hb0 hW) (hml.trans hl.1.symm) hW.1 g_r1 z_r1 ⟨Nat.le_of_ble_eq_true rfl, Nat.le_of_ble_eq_true rfl⟩ (Nat.le_of_ble_eq_true rfl) d_PM_quiet_2 (covers_of_empty hne _) hlocks (cE_x (some_fst h)) (fun _ _ t9 => qx_xv h z_r1 hW t9) hW.2.2.2)
