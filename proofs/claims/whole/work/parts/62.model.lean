abbrev wl_MD_history : List Cond := .code ⟨"PlaceMovesModel", "history", "(III)I"⟩ prog_9_method_32_code 5 (some FieldType.int) :: WG
set_option maxHeartbeats 4000000 in
set_option maxRecDepth 100000 in
theorem c_MD_history (l : Launch) (G : va_G) (ad : Nat → Nat) (cI cZ : ClassId) (hD : DR ad) (σ : Sg) (a1 : Int32) (a2 : Int32) (a3 : Int32) (out : Int32 × Sg) (h : f_MD_history σ a1 a2 a3 = some out) : Met l ⟨"PlaceMovesModel", "history", "(III)I"⟩ wl_MD_history ({ frames := 1, cells := 0, slots := 0, locals := 23 } : Room) (PcR G ad cI cZ σ [.ref (ad 0), .int a1, .int a2, .int a3]) (QRi G ad cI cZ out) 0 0 (AR ad) := by
  refine Met.ofW (cc := prog_9_method_32_code) (maxL := 5) (ret := (some FieldType.int)) (by decide) rfl ?_
  intro p e s m args below meth c s₁ B hml hv
  obtain ⟨rfl, hP, hK⟩ := hv
  have hx := B.exec
  have hb := B.bytes
  have hr := B.returns
  have hts0 := atoms_spec (ws := wl_MD_history) B.pre
  have hts : ∀ w ∈ WG, w.before _ s = true := fun w hw => hts0 w (List.mem_cons_of_mem _ hw)
  have hown : s.vm.findClass "PlaceMovesModel" = some m.cls := findClass_of_methodNamed B.named
  have hlocks := B.notSynchronized
  have C : CX "PlaceMovesModel" prog_9_method_32_code p s m _ c G cI cZ := ⟨hx, hb, hown, hts, hK⟩
  have hl := lv_entry ([.ref (ad 0), .int a1, .int a2, .int a3]) (n := 5) (Nat.le_of_ble_eq_true rfl)
  rw [lg_entry_eq]
  generalize (lg_sl ([.ref (ad 0), .int a1, .int a2, .int a3]) ++ List.replicate (5 - (lg_sl ([.ref (ad 0), .int a1, .int a2, .int a3])).length) Slot.unset).toArray = ls at hl ⊢
  have hl : lv_has ls 5 [(0, .ref (ad 0)), (1, .int a1), (2, .int a2), (3, .int a3)] := hl
  unfold f_MD_history at h
  have hW : WR G ad cI cZ s σ s.heap [] := ⟨hP, va_S.rf⟩
  refine lv_aload_n hx hb d_MD_history_0 rfl (lv_at hl 0 rfl) ?_
  refine lv_aload_n hx hb d_MD_history_1 rfl (lv_at hl 0 rfl) ?_
  refine lv_iload_n hx hb d_MD_history_2 rfl (lv_at hl 1 rfl) ?_
  obtain ⟨r1, g_r1, h⟩ := ob_some h
  refine cl_MD_110 (rest := [.ref (ad 0)]) C (hml.trans hl.1.symm) hW.1 g_r1 ⟨Nat.le_of_ble_eq_true rfl, Nat.le_of_ble_eq_true rfl⟩ (Nat.le_of_ble_eq_true rfl) d_MD_history_3 ⟨Nat.zero_le _, Nat.zero_le _⟩ ?_
  refine lv_if_eq (tgt := 27) hx hb d_MD_history_6 (by decide) (fun c2 => ?_) (fun c2 => ?_)
  · rw [if_pos c2] at h
    refine lv_iconst (v := 0) hx hb d_MD_history_27 (by decide) ?_
    have k28 : ∀ (x1 : Int32) (x2 : Int32) (x3 : Int32) (s0 : Int32) (σ : Sg) (h : C_MD_history_28 x1 x2 x3 s0 σ = some out) (H : Heap) (locs : List Loc) (hW : WR G ad cI cZ s σ H locs) (ls : Array Slot) (hl : lv_has ls 5 [(0, .ref (ad 0)), (1, .int x1), (2, .int x2), (3, .int x3)]), W p l e (headSpec wl_MD_history ({ frames := 1, cells := 0, slots := 0, locals := 23 } : Room)).room s m (([.ref (ad 0), .int a1, .int a2, .int a3] : List Value).toArray) below meth c H locs 0 0 (MQ below (QRi G ad cI cZ out) (([.ref (ad 0), .int a1, .int a2, .int a3] : List Value).toArray) s 0 0 (AR ad)) (F0 m 28 ls [.int s0, .ref (ad 0)]) := by
      intro x1 x2 x3 s0 σ h H locs hW ls hl
      unfold C_MD_history_28 at h
      refine lv_iload_n hx hb d_MD_history_28 rfl (lv_at hl 3 rfl) ?_
      refine lv_iconst (v := 0) hx hb d_MD_history_29 (by decide) ?_
      refine lv_iconst (v := 2) hx hb d_MD_history_30 (by decide) ?_
      obtain ⟨r23, g_r23, h⟩ := ob_some h
      refine cl_MD_98 (rest := [.int s0, .ref (ad 0)]) C (hml.trans hl.1.symm) hW.1 g_r23 ⟨Nat.le_of_ble_eq_true rfl, Nat.le_of_ble_eq_true rfl⟩ (Nat.le_of_ble_eq_true rfl) d_MD_history_31 ⟨Nat.zero_le _, Nat.zero_le _⟩ ?_
      refine lv_iconst (v := 1) hx hb d_MD_history_34 (by decide) ?_
      obtain ⟨r24, g_r24, h⟩ := ob_some h
      refine cl_MD_102 (rest := []) C hD (hml.trans hl.1.symm) hW g_r24 ⟨Nat.le_of_ble_eq_true rfl, Nat.le_of_ble_eq_true rfl⟩ (Nat.le_of_ble_eq_true rfl) d_MD_history_35 ⟨Nat.zero_le _, Nat.zero_le _⟩ (fun H locs hW => ?_)
      refine lv_if_ne (tgt := 43) hx hb d_MD_history_38 (by decide) (fun c25 => ?_) (fun c25 => ?_)
      · rw [if_neg c25] at h
        refine lv_bipush (v := 40) hx hb d_MD_history_43 (by decide) ?_
        refine lv_iload_n hx hb d_MD_history_45 rfl (lv_at hl 1 rfl) ?_
        refine lv_imul hx hb d_MD_history_46 ?_
        refine lv_iload_n hx hb d_MD_history_47 rfl (lv_at hl 2 rfl) ?_
        refine lv_iadd hx hb d_MD_history_48 ?_
        obtain ⟨y26, e_y26, h⟩ := lt1_some h
        refine W.eq (g2 := F0 m 49 ls (.int y26 :: [])) (by rw [e_y26]) ?_
        refine lv_istore (lv' := [(4, .int y26), (0, .ref (ad 0)), (1, .int x1), (2, .int x2), (3, .int x3)]) hx hb d_MD_history_49 hl (by decide) rfl (fun ls hl => ?_)
        refine lv_iload_n hx hb d_MD_history_51 rfl (lv_at hl 4 rfl) ?_
        refine lv_if_ne (tgt := 65) hx hb d_MD_history_52 (by decide) (fun c27 => ?_) (fun c27 => ?_)
        · rw [if_neg c27] at h
          refine lv_iload_n hx hb d_MD_history_65 rfl (lv_at hl 4 rfl) ?_
          refine lv_iconst (v := 1) hx hb d_MD_history_66 (by decide) ?_
          refine lv_icmp_ne (tgt := 80) hx hb d_MD_history_67 (by decide) (fun c28 => ?_) (fun c28 => ?_)
          · rw [if_neg c28] at h
            refine lv_aload_n hx hb d_MD_history_80 rfl (lv_at hl 1 rfl) ?_
            refine gf_MD_41 C hW.1 d_MD_history_81 ?_
            refine lv_iload hx hb d_MD_history_84 (lv_at hl 0 rfl) ?_
            obtain ⟨hin, h⟩ := gd_some h
            refine alR_11 C hW.1 hin d_MD_history_86 ?_
            exact W.iret hx hb hr (fun t ht _ => qr_i h ht hW) hW.2.2.2 d_MD_history_87
          · rw [if_pos c28] at h
            refine lv_aload_n hx hb d_MD_history_70 rfl (lv_at hl 1 rfl) ?_
            refine gf_MD_38 C hW.1 d_MD_history_71 ?_
            refine lv_iload hx hb d_MD_history_74 (lv_at hl 0 rfl) ?_
            obtain ⟨hin, h⟩ := gd_some h
            refine alR_10 C hW.1 hin d_MD_history_76 ?_
            refine lv_goto (tgt := 87) hx hb d_MD_history_77 (by decide) ?_
            exact W.iret hx hb hr (fun t ht _ => qr_i h ht hW) hW.2.2.2 d_MD_history_87
        · rw [if_pos c27] at h
          refine lv_aload_n hx hb d_MD_history_55 rfl (lv_at hl 1 rfl) ?_
          refine gf_MD_35 C hW.1 d_MD_history_56 ?_
          refine lv_iload hx hb d_MD_history_59 (lv_at hl 0 rfl) ?_
          obtain ⟨hin, h⟩ := gd_some h
          refine alR_9 C hW.1 hin d_MD_history_61 ?_
          refine lv_goto (tgt := 87) hx hb d_MD_history_62 (by decide) ?_
          exact W.iret hx hb hr (fun t ht _ => qr_i h ht hW) hW.2.2.2 d_MD_history_87
      · rw [if_pos c25] at h
        refine lv_iconst (v := 0) hx hb d_MD_history_41 (by decide) ?_
        exact W.iret hx hb hr (fun t ht _ => qr_i h ht hW) hW.2.2.2 d_MD_history_42
    exact k28 a1 a2 a3 0 σ h _ _ hW _ (lv_sub hl [0, 1, 2, 3] rfl)
  · rw [if_neg c2] at h
    refine lv_iload_n hx hb d_MD_history_9 rfl (lv_at hl 2 rfl) ?_
    refine lv_if_lt (tgt := 27) hx hb d_MD_history_10 (by decide) (fun c3 => ?_) (fun c3 => ?_)
    · rw [if_pos c3] at h
      refine lv_iconst (v := 0) hx hb d_MD_history_27 (by decide) ?_
      have k28 : ∀ (x1 : Int32) (x2 : Int32) (x3 : Int32) (s0 : Int32) (σ : Sg) (h : C_MD_history_28 x1 x2 x3 s0 σ = some out) (H : Heap) (locs : List Loc) (hW : WR G ad cI cZ s σ H locs) (ls : Array Slot) (hl : lv_has ls 5 [(0, .ref (ad 0)), (1, .int x1), (2, .int x2), (3, .int x3)]), W p l e (headSpec wl_MD_history ({ frames := 1, cells := 0, slots := 0, locals := 23 } : Room)).room s m (([.ref (ad 0), .int a1, .int a2, .int a3] : List Value).toArray) below meth c H locs 0 0 (MQ below (QRi G ad cI cZ out) (([.ref (ad 0), .int a1, .int a2, .int a3] : List Value).toArray) s 0 0 (AR ad)) (F0 m 28 ls [.int s0, .ref (ad 0)]) := by
        intro x1 x2 x3 s0 σ h H locs hW ls hl
        unfold C_MD_history_28 at h
        refine lv_iload_n hx hb d_MD_history_28 rfl (lv_at hl 3 rfl) ?_
        refine lv_iconst (v := 0) hx hb d_MD_history_29 (by decide) ?_
        refine lv_iconst (v := 2) hx hb d_MD_history_30 (by decide) ?_
        obtain ⟨r17, g_r17, h⟩ := ob_some h
        refine cl_MD_98 (rest := [.int s0, .ref (ad 0)]) C (hml.trans hl.1.symm) hW.1 g_r17 ⟨Nat.le_of_ble_eq_true rfl, Nat.le_of_ble_eq_true rfl⟩ (Nat.le_of_ble_eq_true rfl) d_MD_history_31 ⟨Nat.zero_le _, Nat.zero_le _⟩ ?_
        refine lv_iconst (v := 1) hx hb d_MD_history_34 (by decide) ?_
        obtain ⟨r18, g_r18, h⟩ := ob_some h
        refine cl_MD_102 (rest := []) C hD (hml.trans hl.1.symm) hW g_r18 ⟨Nat.le_of_ble_eq_true rfl, Nat.le_of_ble_eq_true rfl⟩ (Nat.le_of_ble_eq_true rfl) d_MD_history_35 ⟨Nat.zero_le _, Nat.zero_le _⟩ (fun H locs hW => ?_)
        refine lv_if_ne (tgt := 43) hx hb d_MD_history_38 (by decide) (fun c19 => ?_) (fun c19 => ?_)
        · rw [if_neg c19] at h
          refine lv_bipush (v := 40) hx hb d_MD_history_43 (by decide) ?_
          refine lv_iload_n hx hb d_MD_history_45 rfl (lv_at hl 1 rfl) ?_
          refine lv_imul hx hb d_MD_history_46 ?_
          refine lv_iload_n hx hb d_MD_history_47 rfl (lv_at hl 2 rfl) ?_
          refine lv_iadd hx hb d_MD_history_48 ?_
          obtain ⟨y20, e_y20, h⟩ := lt1_some h
          refine W.eq (g2 := F0 m 49 ls (.int y20 :: [])) (by rw [e_y20]) ?_
          refine lv_istore (lv' := [(4, .int y20), (0, .ref (ad 0)), (1, .int x1), (2, .int x2), (3, .int x3)]) hx hb d_MD_history_49 hl (by decide) rfl (fun ls hl => ?_)
          refine lv_iload_n hx hb d_MD_history_51 rfl (lv_at hl 4 rfl) ?_
          refine lv_if_ne (tgt := 65) hx hb d_MD_history_52 (by decide) (fun c21 => ?_) (fun c21 => ?_)
          · rw [if_neg c21] at h
            refine lv_iload_n hx hb d_MD_history_65 rfl (lv_at hl 4 rfl) ?_
            refine lv_iconst (v := 1) hx hb d_MD_history_66 (by decide) ?_
            refine lv_icmp_ne (tgt := 80) hx hb d_MD_history_67 (by decide) (fun c22 => ?_) (fun c22 => ?_)
            · rw [if_neg c22] at h
              refine lv_aload_n hx hb d_MD_history_80 rfl (lv_at hl 1 rfl) ?_
              refine gf_MD_41 C hW.1 d_MD_history_81 ?_
              refine lv_iload hx hb d_MD_history_84 (lv_at hl 0 rfl) ?_
              obtain ⟨hin, h⟩ := gd_some h
              refine alR_11 C hW.1 hin d_MD_history_86 ?_
              exact W.iret hx hb hr (fun t ht _ => qr_i h ht hW) hW.2.2.2 d_MD_history_87
            · rw [if_pos c22] at h
              refine lv_aload_n hx hb d_MD_history_70 rfl (lv_at hl 1 rfl) ?_
              refine gf_MD_38 C hW.1 d_MD_history_71 ?_
              refine lv_iload hx hb d_MD_history_74 (lv_at hl 0 rfl) ?_
              obtain ⟨hin, h⟩ := gd_some h
              refine alR_10 C hW.1 hin d_MD_history_76 ?_
              refine lv_goto (tgt := 87) hx hb d_MD_history_77 (by decide) ?_
              exact W.iret hx hb hr (fun t ht _ => qr_i h ht hW) hW.2.2.2 d_MD_history_87
          · rw [if_pos c21] at h
            refine lv_aload_n hx hb d_MD_history_55 rfl (lv_at hl 1 rfl) ?_
            refine gf_MD_35 C hW.1 d_MD_history_56 ?_
            refine lv_iload hx hb d_MD_history_59 (lv_at hl 0 rfl) ?_
            obtain ⟨hin, h⟩ := gd_some h
            refine alR_9 C hW.1 hin d_MD_history_61 ?_
            refine lv_goto (tgt := 87) hx hb d_MD_history_62 (by decide) ?_
            exact W.iret hx hb hr (fun t ht _ => qr_i h ht hW) hW.2.2.2 d_MD_history_87
        · rw [if_pos c19] at h
          refine lv_iconst (v := 0) hx hb d_MD_history_41 (by decide) ?_
          exact W.iret hx hb hr (fun t ht _ => qr_i h ht hW) hW.2.2.2 d_MD_history_42
      exact k28 a1 a2 a3 0 σ h _ _ hW _ (lv_sub hl [0, 1, 2, 3] rfl)
    · rw [if_neg c3] at h
      refine lv_iload_n hx hb d_MD_history_13 rfl (lv_at hl 2 rfl) ?_
      refine lv_aload_n hx hb d_MD_history_14 rfl (lv_at hl 0 rfl) ?_
      refine gf_MD_32 C hW.1 d_MD_history_15 ?_
      refine lv_iload_n hx hb d_MD_history_18 rfl (lv_at hl 1 rfl) ?_
      obtain ⟨hin, h⟩ := gd_some h
      refine alR_8 C hW.1 hin d_MD_history_19 ?_
      refine lv_icmp_ge (tgt := 27) hx hb d_MD_history_20 (by decide) (fun c4 => ?_) (fun c4 => ?_)
      · rw [if_pos c4] at h
        refine lv_iconst (v := 0) hx hb d_MD_history_27 (by decide) ?_
        have k28 : ∀ (x1 : Int32) (x2 : Int32) (x3 : Int32) (s0 : Int32) (σ : Sg) (h : C_MD_history_28 x1 x2 x3 s0 σ = some out) (H : Heap) (locs : List Loc) (hW : WR G ad cI cZ s σ H locs) (ls : Array Slot) (hl : lv_has ls 5 [(0, .ref (ad 0)), (1, .int x1), (2, .int x2), (3, .int x3)]), W p l e (headSpec wl_MD_history ({ frames := 1, cells := 0, slots := 0, locals := 23 } : Room)).room s m (([.ref (ad 0), .int a1, .int a2, .int a3] : List Value).toArray) below meth c H locs 0 0 (MQ below (QRi G ad cI cZ out) (([.ref (ad 0), .int a1, .int a2, .int a3] : List Value).toArray) s 0 0 (AR ad)) (F0 m 28 ls [.int s0, .ref (ad 0)]) := by
          intro x1 x2 x3 s0 σ h H locs hW ls hl
          unfold C_MD_history_28 at h
          refine lv_iload_n hx hb d_MD_history_28 rfl (lv_at hl 3 rfl) ?_
          refine lv_iconst (v := 0) hx hb d_MD_history_29 (by decide) ?_
          refine lv_iconst (v := 2) hx hb d_MD_history_30 (by decide) ?_
          obtain ⟨r11, g_r11, h⟩ := ob_some h
          refine cl_MD_98 (rest := [.int s0, .ref (ad 0)]) C (hml.trans hl.1.symm) hW.1 g_r11 ⟨Nat.le_of_ble_eq_true rfl, Nat.le_of_ble_eq_true rfl⟩ (Nat.le_of_ble_eq_true rfl) d_MD_history_31 ⟨Nat.zero_le _, Nat.zero_le _⟩ ?_
          refine lv_iconst (v := 1) hx hb d_MD_history_34 (by decide) ?_
          obtain ⟨r12, g_r12, h⟩ := ob_some h
          refine cl_MD_102 (rest := []) C hD (hml.trans hl.1.symm) hW g_r12 ⟨Nat.le_of_ble_eq_true rfl, Nat.le_of_ble_eq_true rfl⟩ (Nat.le_of_ble_eq_true rfl) d_MD_history_35 ⟨Nat.zero_le _, Nat.zero_le _⟩ (fun H locs hW => ?_)
          refine lv_if_ne (tgt := 43) hx hb d_MD_history_38 (by decide) (fun c13 => ?_) (fun c13 => ?_)
          · rw [if_neg c13] at h
            refine lv_bipush (v := 40) hx hb d_MD_history_43 (by decide) ?_
            refine lv_iload_n hx hb d_MD_history_45 rfl (lv_at hl 1 rfl) ?_
            refine lv_imul hx hb d_MD_history_46 ?_
            refine lv_iload_n hx hb d_MD_history_47 rfl (lv_at hl 2 rfl) ?_
            refine lv_iadd hx hb d_MD_history_48 ?_
            obtain ⟨y14, e_y14, h⟩ := lt1_some h
            refine W.eq (g2 := F0 m 49 ls (.int y14 :: [])) (by rw [e_y14]) ?_
            refine lv_istore (lv' := [(4, .int y14), (0, .ref (ad 0)), (1, .int x1), (2, .int x2), (3, .int x3)]) hx hb d_MD_history_49 hl (by decide) rfl (fun ls hl => ?_)
            refine lv_iload_n hx hb d_MD_history_51 rfl (lv_at hl 4 rfl) ?_
            refine lv_if_ne (tgt := 65) hx hb d_MD_history_52 (by decide) (fun c15 => ?_) (fun c15 => ?_)
            · rw [if_neg c15] at h
              refine lv_iload_n hx hb d_MD_history_65 rfl (lv_at hl 4 rfl) ?_
              refine lv_iconst (v := 1) hx hb d_MD_history_66 (by decide) ?_
              refine lv_icmp_ne (tgt := 80) hx hb d_MD_history_67 (by decide) (fun c16 => ?_) (fun c16 => ?_)
              · rw [if_neg c16] at h
                refine lv_aload_n hx hb d_MD_history_80 rfl (lv_at hl 1 rfl) ?_
                refine gf_MD_41 C hW.1 d_MD_history_81 ?_
                refine lv_iload hx hb d_MD_history_84 (lv_at hl 0 rfl) ?_
                obtain ⟨hin, h⟩ := gd_some h
                refine alR_11 C hW.1 hin d_MD_history_86 ?_
                exact W.iret hx hb hr (fun t ht _ => qr_i h ht hW) hW.2.2.2 d_MD_history_87
              · rw [if_pos c16] at h
                refine lv_aload_n hx hb d_MD_history_70 rfl (lv_at hl 1 rfl) ?_
                refine gf_MD_38 C hW.1 d_MD_history_71 ?_
                refine lv_iload hx hb d_MD_history_74 (lv_at hl 0 rfl) ?_
                obtain ⟨hin, h⟩ := gd_some h
                refine alR_10 C hW.1 hin d_MD_history_76 ?_
                refine lv_goto (tgt := 87) hx hb d_MD_history_77 (by decide) ?_
                exact W.iret hx hb hr (fun t ht _ => qr_i h ht hW) hW.2.2.2 d_MD_history_87
            · rw [if_pos c15] at h
              refine lv_aload_n hx hb d_MD_history_55 rfl (lv_at hl 1 rfl) ?_
              refine gf_MD_35 C hW.1 d_MD_history_56 ?_
              refine lv_iload hx hb d_MD_history_59 (lv_at hl 0 rfl) ?_
              obtain ⟨hin, h⟩ := gd_some h
              refine alR_9 C hW.1 hin d_MD_history_61 ?_
              refine lv_goto (tgt := 87) hx hb d_MD_history_62 (by decide) ?_
              exact W.iret hx hb hr (fun t ht _ => qr_i h ht hW) hW.2.2.2 d_MD_history_87
          · rw [if_pos c13] at h
            refine lv_iconst (v := 0) hx hb d_MD_history_41 (by decide) ?_
            exact W.iret hx hb hr (fun t ht _ => qr_i h ht hW) hW.2.2.2 d_MD_history_42
        exact k28 a1 a2 a3 0 σ h _ _ hW _ (lv_sub hl [0, 1, 2, 3] rfl)
      · rw [if_neg c4] at h
        refine lv_iconst (v := 1) hx hb d_MD_history_23 (by decide) ?_
        refine lv_goto (tgt := 28) hx hb d_MD_history_24 (by decide) ?_
        have k28 : ∀ (x1 : Int32) (x2 : Int32) (x3 : Int32) (s0 : Int32) (σ : Sg) (h : C_MD_history_28 x1 x2 x3 s0 σ = some out) (H : Heap) (locs : List Loc) (hW : WR G ad cI cZ s σ H locs) (ls : Array Slot) (hl : lv_has ls 5 [(0, .ref (ad 0)), (1, .int x1), (2, .int x2), (3, .int x3)]), W p l e (headSpec wl_MD_history ({ frames := 1, cells := 0, slots := 0, locals := 23 } : Room)).room s m (([.ref (ad 0), .int a1, .int a2, .int a3] : List Value).toArray) below meth c H locs 0 0 (MQ below (QRi G ad cI cZ out) (([.ref (ad 0), .int a1, .int a2, .int a3] : List Value).toArray) s 0 0 (AR ad)) (F0 m 28 ls [.int s0, .ref (ad 0)]) := by
          intro x1 x2 x3 s0 σ h H locs hW ls hl
          unfold C_MD_history_28 at h
          refine lv_iload_n hx hb d_MD_history_28 rfl (lv_at hl 3 rfl) ?_
          refine lv_iconst (v := 0) hx hb d_MD_history_29 (by decide) ?_
          refine lv_iconst (v := 2) hx hb d_MD_history_30 (by decide) ?_
          obtain ⟨r5, g_r5, h⟩ := ob_some h
          refine cl_MD_98 (rest := [.int s0, .ref (ad 0)]) C (hml.trans hl.1.symm) hW.1 g_r5 ⟨Nat.le_of_ble_eq_true rfl, Nat.le_of_ble_eq_true rfl⟩ (Nat.le_of_ble_eq_true rfl) d_MD_history_31 ⟨Nat.zero_le _, Nat.zero_le _⟩ ?_
          refine lv_iconst (v := 1) hx hb d_MD_history_34 (by decide) ?_
          obtain ⟨r6, g_r6, h⟩ := ob_some h
          refine cl_MD_102 (rest := []) C hD (hml.trans hl.1.symm) hW g_r6 ⟨Nat.le_of_ble_eq_true rfl, Nat.le_of_ble_eq_true rfl⟩ (Nat.le_of_ble_eq_true rfl) d_MD_history_35 ⟨Nat.zero_le _, Nat.zero_le _⟩ (fun H locs hW => ?_)
          refine lv_if_ne (tgt := 43) hx hb d_MD_history_38 (by decide) (fun c7 => ?_) (fun c7 => ?_)
          · rw [if_neg c7] at h
            refine lv_bipush (v := 40) hx hb d_MD_history_43 (by decide) ?_
            refine lv_iload_n hx hb d_MD_history_45 rfl (lv_at hl 1 rfl) ?_
            refine lv_imul hx hb d_MD_history_46 ?_
            refine lv_iload_n hx hb d_MD_history_47 rfl (lv_at hl 2 rfl) ?_
            refine lv_iadd hx hb d_MD_history_48 ?_
            obtain ⟨y8, e_y8, h⟩ := lt1_some h
            refine W.eq (g2 := F0 m 49 ls (.int y8 :: [])) (by rw [e_y8]) ?_
            refine lv_istore (lv' := [(4, .int y8), (0, .ref (ad 0)), (1, .int x1), (2, .int x2), (3, .int x3)]) hx hb d_MD_history_49 hl (by decide) rfl (fun ls hl => ?_)
            refine lv_iload_n hx hb d_MD_history_51 rfl (lv_at hl 4 rfl) ?_
            refine lv_if_ne (tgt := 65) hx hb d_MD_history_52 (by decide) (fun c9 => ?_) (fun c9 => ?_)
            · rw [if_neg c9] at h
              refine lv_iload_n hx hb d_MD_history_65 rfl (lv_at hl 4 rfl) ?_
              refine lv_iconst (v := 1) hx hb d_MD_history_66 (by decide) ?_
              refine lv_icmp_ne (tgt := 80) hx hb d_MD_history_67 (by decide) (fun c10 => ?_) (fun c10 => ?_)
              · rw [if_neg c10] at h
                refine lv_aload_n hx hb d_MD_history_80 rfl (lv_at hl 1 rfl) ?_
                refine gf_MD_41 C hW.1 d_MD_history_81 ?_
                refine lv_iload hx hb d_MD_history_84 (lv_at hl 0 rfl) ?_
                obtain ⟨hin, h⟩ := gd_some h
                refine alR_11 C hW.1 hin d_MD_history_86 ?_
                exact W.iret hx hb hr (fun t ht _ => qr_i h ht hW) hW.2.2.2 d_MD_history_87
              · rw [if_pos c10] at h
                refine lv_aload_n hx hb d_MD_history_70 rfl (lv_at hl 1 rfl) ?_
                refine gf_MD_38 C hW.1 d_MD_history_71 ?_
                refine lv_iload hx hb d_MD_history_74 (lv_at hl 0 rfl) ?_
                obtain ⟨hin, h⟩ := gd_some h
                refine alR_10 C hW.1 hin d_MD_history_76 ?_
                refine lv_goto (tgt := 87) hx hb d_MD_history_77 (by decide) ?_
                exact W.iret hx hb hr (fun t ht _ => qr_i h ht hW) hW.2.2.2 d_MD_history_87
            · rw [if_pos c9] at h
              refine lv_aload_n hx hb d_MD_history_55 rfl (lv_at hl 1 rfl) ?_
              refine gf_MD_35 C hW.1 d_MD_history_56 ?_
              refine lv_iload hx hb d_MD_history_59 (lv_at hl 0 rfl) ?_
              obtain ⟨hin, h⟩ := gd_some h
              refine alR_9 C hW.1 hin d_MD_history_61 ?_
              refine lv_goto (tgt := 87) hx hb d_MD_history_62 (by decide) ?_
              exact W.iret hx hb hr (fun t ht _ => qr_i h ht hW) hW.2.2.2 d_MD_history_87
          · rw [if_pos c7] at h
            refine lv_iconst (v := 0) hx hb d_MD_history_41 (by decide) ?_
            exact W.iret hx hb hr (fun t ht _ => qr_i h ht hW) hW.2.2.2 d_MD_history_42
        exact k28 a1 a2 a3 1 σ h _ _ hW _ (lv_sub hl [0, 1, 2, 3] rfl)
abbrev wl_MD_door : List Cond := .code ⟨"PlaceMovesModel", "door", "(IIII)I"⟩ prog_9_method_33_code 5 (some FieldType.int) :: WG
set_option maxHeartbeats 4000000 in
set_option maxRecDepth 100000 in
theorem c_MD_door (l : Launch) (G : va_G) (ad : Nat → Nat) (cI cZ : ClassId) (hD : DR ad) (σ : Sg) (a1 : Int32) (a2 : Int32) (a3 : Int32) (a4 : Int32) (out : Int32 × Sg) (h : f_MD_door σ a1 a2 a3 a4 = some out) : Met l ⟨"PlaceMovesModel", "door", "(IIII)I"⟩ wl_MD_door ({ frames := 1, cells := 0, slots := 0, locals := 23 } : Room) (PcR G ad cI cZ σ [.ref (ad 0), .int a1, .int a2, .int a3, .int a4]) (QRi G ad cI cZ out) 0 0 (AR ad) := by
  refine Met.ofW (cc := prog_9_method_33_code) (maxL := 5) (ret := (some FieldType.int)) (by decide) rfl ?_
  intro p e s m args below meth c s₁ B hml hv
  obtain ⟨rfl, hP, hK⟩ := hv
  have hx := B.exec
  have hb := B.bytes
  have hr := B.returns
  have hts0 := atoms_spec (ws := wl_MD_door) B.pre
  have hts : ∀ w ∈ WG, w.before _ s = true := fun w hw => hts0 w (List.mem_cons_of_mem _ hw)
  have hown : s.vm.findClass "PlaceMovesModel" = some m.cls := findClass_of_methodNamed B.named
  have hlocks := B.notSynchronized
  have C : CX "PlaceMovesModel" prog_9_method_33_code p s m _ c G cI cZ := ⟨hx, hb, hown, hts, hK⟩
  have hl := lv_entry ([.ref (ad 0), .int a1, .int a2, .int a3, .int a4]) (n := 5) (Nat.le_of_ble_eq_true rfl)
  rw [lg_entry_eq]
  generalize (lg_sl ([.ref (ad 0), .int a1, .int a2, .int a3, .int a4]) ++ List.replicate (5 - (lg_sl ([.ref (ad 0), .int a1, .int a2, .int a3, .int a4])).length) Slot.unset).toArray = ls at hl ⊢
  have hl : lv_has ls 5 [(0, .ref (ad 0)), (1, .int a1), (2, .int a2), (3, .int a3), (4, .int a4)] := hl
  unfold f_MD_door at h
  have hW : WR G ad cI cZ s σ s.heap [] := ⟨hP, va_S.rf⟩
  refine lv_aload_n hx hb d_MD_door_0 rfl (lv_at hl 0 rfl) ?_
  refine lv_aload_n hx hb d_MD_door_1 rfl (lv_at hl 0 rfl) ?_
  refine lv_iload_n hx hb d_MD_door_2 rfl (lv_at hl 1 rfl) ?_
  obtain ⟨r1, g_r1, h⟩ := ob_some h
  refine cl_MD_93 (rest := [.ref (ad 0)]) C (hml.trans hl.1.symm) hW.1 g_r1 ⟨Nat.le_of_ble_eq_true rfl, Nat.le_of_ble_eq_true rfl⟩ (Nat.le_of_ble_eq_true rfl) d_MD_door_3 ⟨Nat.zero_le _, Nat.zero_le _⟩ ?_
  refine lv_if_eq (tgt := 21) hx hb d_MD_door_6 (by decide) (fun c2 => ?_) (fun c2 => ?_)
  · rw [if_pos c2] at h
    refine lv_iconst (v := 0) hx hb d_MD_door_21 (by decide) ?_
    have k22 : ∀ (x1 : Int32) (x2 : Int32) (x3 : Int32) (x4 : Int32) (s0 : Int32) (σ : Sg) (h : C_MD_door_22 x1 x2 x3 x4 s0 σ = some out) (H : Heap) (locs : List Loc) (hW : WR G ad cI cZ s σ H locs) (ls : Array Slot) (hl : lv_has ls 5 [(0, .ref (ad 0)), (1, .int x1), (2, .int x2), (3, .int x3), (4, .int x4)]), W p l e (headSpec wl_MD_door ({ frames := 1, cells := 0, slots := 0, locals := 23 } : Room)).room s m (([.ref (ad 0), .int a1, .int a2, .int a3, .int a4] : List Value).toArray) below meth c H locs 0 0 (MQ below (QRi G ad cI cZ out) (([.ref (ad 0), .int a1, .int a2, .int a3, .int a4] : List Value).toArray) s 0 0 (AR ad)) (F0 m 22 ls [.int s0, .ref (ad 0)]) := by
      intro x1 x2 x3 x4 s0 σ h H locs hW ls hl
      unfold C_MD_door_22 at h
      refine lv_iload_n hx hb d_MD_door_22 rfl (lv_at hl 1 rfl) ?_
      refine lv_iload_n hx hb d_MD_door_23 rfl (lv_at hl 2 rfl) ?_
      refine lv_icmp_eq (tgt := 46) hx hb d_MD_door_24 (by decide) (fun c135 => ?_) (fun c135 => ?_)
      · rw [if_pos c135] at h
        refine lv_iconst (v := 0) hx hb d_MD_door_46 (by decide) ?_
        refine lv_aload_n hx hb d_MD_door_47 rfl (lv_at hl 0 rfl) ?_
        refine gf_MD_170 C hW.1 d_MD_door_48 ?_
        refine lv_bipush (v := 40) hx hb d_MD_door_51 (by decide) ?_
        refine lv_icmp_ge (tgt := 60) hx hb d_MD_door_53 (by decide) (fun c185 => ?_) (fun c185 => ?_)
        · rw [if_pos c185] at h
          refine lv_iconst (v := 0) hx hb d_MD_door_60 (by decide) ?_
          have k61 : ∀ (x1 : Int32) (x2 : Int32) (x3 : Int32) (x4 : Int32) (s0 : Int32) (s1 : Int32) (s2 : Int32) (σ : Sg) (h : C_MD_door_61 x1 x2 x3 x4 s0 s1 s2 σ = some out) (H : Heap) (locs : List Loc) (hW : WR G ad cI cZ s σ H locs) (ls : Array Slot) (hl : lv_has ls 5 [(0, .ref (ad 0)), (1, .int x1), (2, .int x2), (3, .int x3), (4, .int x4)]), W p l e (headSpec wl_MD_door ({ frames := 1, cells := 0, slots := 0, locals := 23 } : Room)).room s m (([.ref (ad 0), .int a1, .int a2, .int a3, .int a4] : List Value).toArray) below meth c H locs 0 0 (MQ below (QRi G ad cI cZ out) (([.ref (ad 0), .int a1, .int a2, .int a3, .int a4] : List Value).toArray) s 0 0 (AR ad)) (F0 m 61 ls [.int s0, .int s1, .int s2, .ref (ad 0)]) := by
            intro x1 x2 x3 x4 s0 s1 s2 σ h H locs hW ls hl
            unfold C_MD_door_61 at h
            obtain ⟨r193, g_r193, h⟩ := ob_some h
            refine cl_MD_102 (rest := []) C hD (hml.trans hl.1.symm) hW g_r193 ⟨Nat.le_of_ble_eq_true rfl, Nat.le_of_ble_eq_true rfl⟩ (Nat.le_of_ble_eq_true rfl) d_MD_door_61 ⟨Nat.zero_le _, Nat.zero_le _⟩ (fun H locs hW => ?_)
            refine lv_if_ne (tgt := 69) hx hb d_MD_door_64 (by decide) (fun c194 => ?_) (fun c194 => ?_)
            · rw [if_neg c194] at h
              refine lv_aload_n hx hb d_MD_door_69 rfl (lv_at hl 0 rfl) ?_
              refine gf_MD_44 C hW.1 d_MD_door_70 ?_
              refine lv_aload_n hx hb d_MD_door_73 rfl (lv_at hl 0 rfl) ?_
              refine gf_MD_170 C hW.1 d_MD_door_74 ?_
              refine lv_iload_n hx hb d_MD_door_77 rfl (lv_at hl 1 rfl) ?_
              obtain ⟨hin, h⟩ := gd_some h
              refine asR_12 C hD hW hin d_MD_door_78 (fun H locs hW => ?_)
              obtain ⟨σ195, e_σ195, h⟩ := lt1_some h
              rw [← e_σ195] at hW
              refine lv_aload_n hx hb d_MD_door_79 rfl (lv_at hl 0 rfl) ?_
              refine gf_MD_47 C hW.1 d_MD_door_80 ?_
              refine lv_aload_n hx hb d_MD_door_83 rfl (lv_at hl 0 rfl) ?_
              refine gf_MD_170 C hW.1 d_MD_door_84 ?_
              refine lv_iload_n hx hb d_MD_door_87 rfl (lv_at hl 2 rfl) ?_
              obtain ⟨hin, h⟩ := gd_some h
              refine asR_13 C hD hW hin d_MD_door_88 (fun H locs hW => ?_)
              obtain ⟨σ196, e_σ196, h⟩ := lt1_some h
              rw [← e_σ196] at hW
              refine lv_aload_n hx hb d_MD_door_89 rfl (lv_at hl 0 rfl) ?_
              refine gf_MD_50 C hW.1 d_MD_door_90 ?_
              refine lv_aload_n hx hb d_MD_door_93 rfl (lv_at hl 0 rfl) ?_
              refine gf_MD_170 C hW.1 d_MD_door_94 ?_
              refine lv_iload_n hx hb d_MD_door_97 rfl (lv_at hl 3 rfl) ?_
              obtain ⟨hin, h⟩ := gd_some h
              refine asR_14 C hD hW hin d_MD_door_98 (fun H locs hW => ?_)
              obtain ⟨σ197, e_σ197, h⟩ := lt1_some h
              rw [← e_σ197] at hW
              refine lv_aload_n hx hb d_MD_door_99 rfl (lv_at hl 0 rfl) ?_
              refine gf_MD_53 C hW.1 d_MD_door_100 ?_
              refine lv_aload_n hx hb d_MD_door_103 rfl (lv_at hl 0 rfl) ?_
              refine gf_MD_170 C hW.1 d_MD_door_104 ?_
              refine lv_iload hx hb d_MD_door_107 (lv_at hl 4 rfl) ?_
              obtain ⟨hin, h⟩ := gd_some h
              refine asR_15 C hD hW hin d_MD_door_109 (fun H locs hW => ?_)
              obtain ⟨σ198, e_σ198, h⟩ := lt1_some h
              rw [← e_σ198] at hW
              refine lv_aload_n hx hb d_MD_door_110 rfl (lv_at hl 0 rfl) ?_
              refine lv_dup hx hb d_MD_door_111 rfl ?_
              refine gf_MD_170 C hW.1 d_MD_door_112 ?_
              refine lv_iconst (v := 1) hx hb d_MD_door_115 (by decide) ?_
              refine lv_iadd hx hb d_MD_door_116 ?_
              refine pf_MD_170 C hD hW d_MD_door_117 (fun H locs hW => ?_)
              obtain ⟨σ199, e_σ199, h⟩ := lt1_some h
              rw [← e_σ199] at hW
              refine lv_aload_n hx hb d_MD_door_120 rfl (lv_at hl 0 rfl) ?_
              refine gf_MD_170 C hW.1 d_MD_door_121 ?_
              refine lv_iconst (v := 1) hx hb d_MD_door_124 (by decide) ?_
              refine lv_isub hx hb d_MD_door_125 ?_
              exact W.iret hx hb hr (fun t ht _ => qr_i h ht hW) hW.2.2.2 d_MD_door_126
            · rw [if_pos c194] at h
              refine lv_iconst (v := 0) hx hb d_MD_door_67 (by decide) ?_
              exact W.iret hx hb hr (fun t ht _ => qr_i h ht hW) hW.2.2.2 d_MD_door_68
          exact k61 x1 x2 x3 x4 0 0 s0 σ h _ _ hW _ (lv_sub hl [0, 1, 2, 3, 4] rfl)
        · rw [if_neg c185] at h
          refine lv_iconst (v := 1) hx hb d_MD_door_56 (by decide) ?_
          refine lv_goto (tgt := 61) hx hb d_MD_door_57 (by decide) ?_
          have k61 : ∀ (x1 : Int32) (x2 : Int32) (x3 : Int32) (x4 : Int32) (s0 : Int32) (s1 : Int32) (s2 : Int32) (σ : Sg) (h : C_MD_door_61 x1 x2 x3 x4 s0 s1 s2 σ = some out) (H : Heap) (locs : List Loc) (hW : WR G ad cI cZ s σ H locs) (ls : Array Slot) (hl : lv_has ls 5 [(0, .ref (ad 0)), (1, .int x1), (2, .int x2), (3, .int x3), (4, .int x4)]), W p l e (headSpec wl_MD_door ({ frames := 1, cells := 0, slots := 0, locals := 23 } : Room)).room s m (([.ref (ad 0), .int a1, .int a2, .int a3, .int a4] : List Value).toArray) below meth c H locs 0 0 (MQ below (QRi G ad cI cZ out) (([.ref (ad 0), .int a1, .int a2, .int a3, .int a4] : List Value).toArray) s 0 0 (AR ad)) (F0 m 61 ls [.int s0, .int s1, .int s2, .ref (ad 0)]) := by
            intro x1 x2 x3 x4 s0 s1 s2 σ h H locs hW ls hl
            unfold C_MD_door_61 at h
            obtain ⟨r186, g_r186, h⟩ := ob_some h
            refine cl_MD_102 (rest := []) C hD (hml.trans hl.1.symm) hW g_r186 ⟨Nat.le_of_ble_eq_true rfl, Nat.le_of_ble_eq_true rfl⟩ (Nat.le_of_ble_eq_true rfl) d_MD_door_61 ⟨Nat.zero_le _, Nat.zero_le _⟩ (fun H locs hW => ?_)
            refine lv_if_ne (tgt := 69) hx hb d_MD_door_64 (by decide) (fun c187 => ?_) (fun c187 => ?_)
            · rw [if_neg c187] at h
              refine lv_aload_n hx hb d_MD_door_69 rfl (lv_at hl 0 rfl) ?_
              refine gf_MD_44 C hW.1 d_MD_door_70 ?_
              refine lv_aload_n hx hb d_MD_door_73 rfl (lv_at hl 0 rfl) ?_
              refine gf_MD_170 C hW.1 d_MD_door_74 ?_
              refine lv_iload_n hx hb d_MD_door_77 rfl (lv_at hl 1 rfl) ?_
              obtain ⟨hin, h⟩ := gd_some h
              refine asR_12 C hD hW hin d_MD_door_78 (fun H locs hW => ?_)
              obtain ⟨σ188, e_σ188, h⟩ := lt1_some h
              rw [← e_σ188] at hW
              refine lv_aload_n hx hb d_MD_door_79 rfl (lv_at hl 0 rfl) ?_
              refine gf_MD_47 C hW.1 d_MD_door_80 ?_
              refine lv_aload_n hx hb d_MD_door_83 rfl (lv_at hl 0 rfl) ?_
              refine gf_MD_170 C hW.1 d_MD_door_84 ?_
              refine lv_iload_n hx hb d_MD_door_87 rfl (lv_at hl 2 rfl) ?_
              obtain ⟨hin, h⟩ := gd_some h
              refine asR_13 C hD hW hin d_MD_door_88 (fun H locs hW => ?_)
              obtain ⟨σ189, e_σ189, h⟩ := lt1_some h
              rw [← e_σ189] at hW
              refine lv_aload_n hx hb d_MD_door_89 rfl (lv_at hl 0 rfl) ?_
              refine gf_MD_50 C hW.1 d_MD_door_90 ?_
              refine lv_aload_n hx hb d_MD_door_93 rfl (lv_at hl 0 rfl) ?_
              refine gf_MD_170 C hW.1 d_MD_door_94 ?_
              refine lv_iload_n hx hb d_MD_door_97 rfl (lv_at hl 3 rfl) ?_
              obtain ⟨hin, h⟩ := gd_some h
              refine asR_14 C hD hW hin d_MD_door_98 (fun H locs hW => ?_)
              obtain ⟨σ190, e_σ190, h⟩ := lt1_some h
              rw [← e_σ190] at hW
              refine lv_aload_n hx hb d_MD_door_99 rfl (lv_at hl 0 rfl) ?_
              refine gf_MD_53 C hW.1 d_MD_door_100 ?_
              refine lv_aload_n hx hb d_MD_door_103 rfl (lv_at hl 0 rfl) ?_
              refine gf_MD_170 C hW.1 d_MD_door_104 ?_
              refine lv_iload hx hb d_MD_door_107 (lv_at hl 4 rfl) ?_
              obtain ⟨hin, h⟩ := gd_some h
              refine asR_15 C hD hW hin d_MD_door_109 (fun H locs hW => ?_)
              obtain ⟨σ191, e_σ191, h⟩ := lt1_some h
              rw [← e_σ191] at hW
              refine lv_aload_n hx hb d_MD_door_110 rfl (lv_at hl 0 rfl) ?_
              refine lv_dup hx hb d_MD_door_111 rfl ?_
              refine gf_MD_170 C hW.1 d_MD_door_112 ?_
              refine lv_iconst (v := 1) hx hb d_MD_door_115 (by decide) ?_
              refine lv_iadd hx hb d_MD_door_116 ?_
              refine pf_MD_170 C hD hW d_MD_door_117 (fun H locs hW => ?_)
              obtain ⟨σ192, e_σ192, h⟩ := lt1_some h
              rw [← e_σ192] at hW
              refine lv_aload_n hx hb d_MD_door_120 rfl (lv_at hl 0 rfl) ?_
              refine gf_MD_170 C hW.1 d_MD_door_121 ?_
              refine lv_iconst (v := 1) hx hb d_MD_door_124 (by decide) ?_
              refine lv_isub hx hb d_MD_door_125 ?_
              exact W.iret hx hb hr (fun t ht _ => qr_i h ht hW) hW.2.2.2 d_MD_door_126
            · rw [if_pos c187] at h
              refine lv_iconst (v := 0) hx hb d_MD_door_67 (by decide) ?_
              exact W.iret hx hb hr (fun t ht _ => qr_i h ht hW) hW.2.2.2 d_MD_door_68
          exact k61 x1 x2 x3 x4 1 0 s0 σ h _ _ hW _ (lv_sub hl [0, 1, 2, 3, 4] rfl)
      · rw [if_neg c135] at h
        refine lv_iload_n hx hb d_MD_door_27 rfl (lv_at hl 3 rfl) ?_
        obtain ⟨r136, g_r136, h⟩ := ob_some h
        refine cl_MD_106 (rest := [.int s0, .ref (ad 0)]) C (hml.trans hl.1.symm) hW.1 g_r136 ⟨Nat.le_of_ble_eq_true rfl, Nat.le_of_ble_eq_true rfl⟩ (Nat.le_of_ble_eq_true rfl) d_MD_door_28 ⟨Nat.zero_le _, Nat.zero_le _⟩ ?_
        refine lv_if_eq (tgt := 46) hx hb d_MD_door_31 (by decide) (fun c137 => ?_) (fun c137 => ?_)
        · rw [if_pos c137] at h
          refine lv_iconst (v := 0) hx hb d_MD_door_46 (by decide) ?_
          refine lv_aload_n hx hb d_MD_door_47 rfl (lv_at hl 0 rfl) ?_
          refine gf_MD_170 C hW.1 d_MD_door_48 ?_
          refine lv_bipush (v := 40) hx hb d_MD_door_51 (by decide) ?_
          refine lv_icmp_ge (tgt := 60) hx hb d_MD_door_53 (by decide) (fun c170 => ?_) (fun c170 => ?_)
          · rw [if_pos c170] at h
            refine lv_iconst (v := 0) hx hb d_MD_door_60 (by decide) ?_
            have k61 : ∀ (x1 : Int32) (x2 : Int32) (x3 : Int32) (x4 : Int32) (s0 : Int32) (s1 : Int32) (s2 : Int32) (σ : Sg) (h : C_MD_door_61 x1 x2 x3 x4 s0 s1 s2 σ = some out) (H : Heap) (locs : List Loc) (hW : WR G ad cI cZ s σ H locs) (ls : Array Slot) (hl : lv_has ls 5 [(0, .ref (ad 0)), (1, .int x1), (2, .int x2), (3, .int x3), (4, .int x4)]), W p l e (headSpec wl_MD_door ({ frames := 1, cells := 0, slots := 0, locals := 23 } : Room)).room s m (([.ref (ad 0), .int a1, .int a2, .int a3, .int a4] : List Value).toArray) below meth c H locs 0 0 (MQ below (QRi G ad cI cZ out) (([.ref (ad 0), .int a1, .int a2, .int a3, .int a4] : List Value).toArray) s 0 0 (AR ad)) (F0 m 61 ls [.int s0, .int s1, .int s2, .ref (ad 0)]) := by
              intro x1 x2 x3 x4 s0 s1 s2 σ h H locs hW ls hl
              unfold C_MD_door_61 at h
              obtain ⟨r178, g_r178, h⟩ := ob_some h
              refine cl_MD_102 (rest := []) C hD (hml.trans hl.1.symm) hW g_r178 ⟨Nat.le_of_ble_eq_true rfl, Nat.le_of_ble_eq_true rfl⟩ (Nat.le_of_ble_eq_true rfl) d_MD_door_61 ⟨Nat.zero_le _, Nat.zero_le _⟩ (fun H locs hW => ?_)
              refine lv_if_ne (tgt := 69) hx hb d_MD_door_64 (by decide) (fun c179 => ?_) (fun c179 => ?_)
              · rw [if_neg c179] at h
                refine lv_aload_n hx hb d_MD_door_69 rfl (lv_at hl 0 rfl) ?_
                refine gf_MD_44 C hW.1 d_MD_door_70 ?_
                refine lv_aload_n hx hb d_MD_door_73 rfl (lv_at hl 0 rfl) ?_
                refine gf_MD_170 C hW.1 d_MD_door_74 ?_
                refine lv_iload_n hx hb d_MD_door_77 rfl (lv_at hl 1 rfl) ?_
                obtain ⟨hin, h⟩ := gd_some h
                refine asR_12 C hD hW hin d_MD_door_78 (fun H locs hW => ?_)
                obtain ⟨σ180, e_σ180, h⟩ := lt1_some h
                rw [← e_σ180] at hW
                refine lv_aload_n hx hb d_MD_door_79 rfl (lv_at hl 0 rfl) ?_
                refine gf_MD_47 C hW.1 d_MD_door_80 ?_
                refine lv_aload_n hx hb d_MD_door_83 rfl (lv_at hl 0 rfl) ?_
                refine gf_MD_170 C hW.1 d_MD_door_84 ?_
                refine lv_iload_n hx hb d_MD_door_87 rfl (lv_at hl 2 rfl) ?_
                obtain ⟨hin, h⟩ := gd_some h
                refine asR_13 C hD hW hin d_MD_door_88 (fun H locs hW => ?_)
                obtain ⟨σ181, e_σ181, h⟩ := lt1_some h
                rw [← e_σ181] at hW
                refine lv_aload_n hx hb d_MD_door_89 rfl (lv_at hl 0 rfl) ?_
                refine gf_MD_50 C hW.1 d_MD_door_90 ?_
                refine lv_aload_n hx hb d_MD_door_93 rfl (lv_at hl 0 rfl) ?_
                refine gf_MD_170 C hW.1 d_MD_door_94 ?_
                refine lv_iload_n hx hb d_MD_door_97 rfl (lv_at hl 3 rfl) ?_
                obtain ⟨hin, h⟩ := gd_some h
                refine asR_14 C hD hW hin d_MD_door_98 (fun H locs hW => ?_)
                obtain ⟨σ182, e_σ182, h⟩ := lt1_some h
                rw [← e_σ182] at hW
                refine lv_aload_n hx hb d_MD_door_99 rfl (lv_at hl 0 rfl) ?_
                refine gf_MD_53 C hW.1 d_MD_door_100 ?_
                refine lv_aload_n hx hb d_MD_door_103 rfl (lv_at hl 0 rfl) ?_
                refine gf_MD_170 C hW.1 d_MD_door_104 ?_
                refine lv_iload hx hb d_MD_door_107 (lv_at hl 4 rfl) ?_
                obtain ⟨hin, h⟩ := gd_some h
                refine asR_15 C hD hW hin d_MD_door_109 (fun H locs hW => ?_)
                obtain ⟨σ183, e_σ183, h⟩ := lt1_some h
                rw [← e_σ183] at hW
                refine lv_aload_n hx hb d_MD_door_110 rfl (lv_at hl 0 rfl) ?_
                refine lv_dup hx hb d_MD_door_111 rfl ?_
                refine gf_MD_170 C hW.1 d_MD_door_112 ?_
                refine lv_iconst (v := 1) hx hb d_MD_door_115 (by decide) ?_
                refine lv_iadd hx hb d_MD_door_116 ?_
                refine pf_MD_170 C hD hW d_MD_door_117 (fun H locs hW => ?_)
                obtain ⟨σ184, e_σ184, h⟩ := lt1_some h
                rw [← e_σ184] at hW
                refine lv_aload_n hx hb d_MD_door_120 rfl (lv_at hl 0 rfl) ?_
                refine gf_MD_170 C hW.1 d_MD_door_121 ?_
                refine lv_iconst (v := 1) hx hb d_MD_door_124 (by decide) ?_
                refine lv_isub hx hb d_MD_door_125 ?_
                exact W.iret hx hb hr (fun t ht _ => qr_i h ht hW) hW.2.2.2 d_MD_door_126
              · rw [if_pos c179] at h
                refine lv_iconst (v := 0) hx hb d_MD_door_67 (by decide) ?_
                exact W.iret hx hb hr (fun t ht _ => qr_i h ht hW) hW.2.2.2 d_MD_door_68
            exact k61 x1 x2 x3 x4 0 0 s0 σ h _ _ hW _ (lv_sub hl [0, 1, 2, 3, 4] rfl)
          · rw [if_neg c170] at h
            refine lv_iconst (v := 1) hx hb d_MD_door_56 (by decide) ?_
            refine lv_goto (tgt := 61) hx hb d_MD_door_57 (by decide) ?_
            have k61 : ∀ (x1 : Int32) (x2 : Int32) (x3 : Int32) (x4 : Int32) (s0 : Int32) (s1 : Int32) (s2 : Int32) (σ : Sg) (h : C_MD_door_61 x1 x2 x3 x4 s0 s1 s2 σ = some out) (H : Heap) (locs : List Loc) (hW : WR G ad cI cZ s σ H locs) (ls : Array Slot) (hl : lv_has ls 5 [(0, .ref (ad 0)), (1, .int x1), (2, .int x2), (3, .int x3), (4, .int x4)]), W p l e (headSpec wl_MD_door ({ frames := 1, cells := 0, slots := 0, locals := 23 } : Room)).room s m (([.ref (ad 0), .int a1, .int a2, .int a3, .int a4] : List Value).toArray) below meth c H locs 0 0 (MQ below (QRi G ad cI cZ out) (([.ref (ad 0), .int a1, .int a2, .int a3, .int a4] : List Value).toArray) s 0 0 (AR ad)) (F0 m 61 ls [.int s0, .int s1, .int s2, .ref (ad 0)]) := by
              intro x1 x2 x3 x4 s0 s1 s2 σ h H locs hW ls hl
              unfold C_MD_door_61 at h
              obtain ⟨r171, g_r171, h⟩ := ob_some h
              refine cl_MD_102 (rest := []) C hD (hml.trans hl.1.symm) hW g_r171 ⟨Nat.le_of_ble_eq_true rfl, Nat.le_of_ble_eq_true rfl⟩ (Nat.le_of_ble_eq_true rfl) d_MD_door_61 ⟨Nat.zero_le _, Nat.zero_le _⟩ (fun H locs hW => ?_)
              refine lv_if_ne (tgt := 69) hx hb d_MD_door_64 (by decide) (fun c172 => ?_) (fun c172 => ?_)
              · rw [if_neg c172] at h
                refine lv_aload_n hx hb d_MD_door_69 rfl (lv_at hl 0 rfl) ?_
                refine gf_MD_44 C hW.1 d_MD_door_70 ?_
                refine lv_aload_n hx hb d_MD_door_73 rfl (lv_at hl 0 rfl) ?_
                refine gf_MD_170 C hW.1 d_MD_door_74 ?_
                refine lv_iload_n hx hb d_MD_door_77 rfl (lv_at hl 1 rfl) ?_
                obtain ⟨hin, h⟩ := gd_some h
                refine asR_12 C hD hW hin d_MD_door_78 (fun H locs hW => ?_)
                obtain ⟨σ173, e_σ173, h⟩ := lt1_some h
                rw [← e_σ173] at hW
                refine lv_aload_n hx hb d_MD_door_79 rfl (lv_at hl 0 rfl) ?_
                refine gf_MD_47 C hW.1 d_MD_door_80 ?_
                refine lv_aload_n hx hb d_MD_door_83 rfl (lv_at hl 0 rfl) ?_
                refine gf_MD_170 C hW.1 d_MD_door_84 ?_
                refine lv_iload_n hx hb d_MD_door_87 rfl (lv_at hl 2 rfl) ?_
                obtain ⟨hin, h⟩ := gd_some h
                refine asR_13 C hD hW hin d_MD_door_88 (fun H locs hW => ?_)
                obtain ⟨σ174, e_σ174, h⟩ := lt1_some h
                rw [← e_σ174] at hW
                refine lv_aload_n hx hb d_MD_door_89 rfl (lv_at hl 0 rfl) ?_
                refine gf_MD_50 C hW.1 d_MD_door_90 ?_
                refine lv_aload_n hx hb d_MD_door_93 rfl (lv_at hl 0 rfl) ?_
                refine gf_MD_170 C hW.1 d_MD_door_94 ?_
                refine lv_iload_n hx hb d_MD_door_97 rfl (lv_at hl 3 rfl) ?_
                obtain ⟨hin, h⟩ := gd_some h
                refine asR_14 C hD hW hin d_MD_door_98 (fun H locs hW => ?_)
                obtain ⟨σ175, e_σ175, h⟩ := lt1_some h
                rw [← e_σ175] at hW
                refine lv_aload_n hx hb d_MD_door_99 rfl (lv_at hl 0 rfl) ?_
                refine gf_MD_53 C hW.1 d_MD_door_100 ?_
                refine lv_aload_n hx hb d_MD_door_103 rfl (lv_at hl 0 rfl) ?_
                refine gf_MD_170 C hW.1 d_MD_door_104 ?_
                refine lv_iload hx hb d_MD_door_107 (lv_at hl 4 rfl) ?_
                obtain ⟨hin, h⟩ := gd_some h
                refine asR_15 C hD hW hin d_MD_door_109 (fun H locs hW => ?_)
                obtain ⟨σ176, e_σ176, h⟩ := lt1_some h
                rw [← e_σ176] at hW
                refine lv_aload_n hx hb d_MD_door_110 rfl (lv_at hl 0 rfl) ?_
                refine lv_dup hx hb d_MD_door_111 rfl ?_
                refine gf_MD_170 C hW.1 d_MD_door_112 ?_
                refine lv_iconst (v := 1) hx hb d_MD_door_115 (by decide) ?_
                refine lv_iadd hx hb d_MD_door_116 ?_
                refine pf_MD_170 C hD hW d_MD_door_117 (fun H locs hW => ?_)
                obtain ⟨σ177, e_σ177, h⟩ := lt1_some h
                rw [← e_σ177] at hW
                refine lv_aload_n hx hb d_MD_door_120 rfl (lv_at hl 0 rfl) ?_
                refine gf_MD_170 C hW.1 d_MD_door_121 ?_
                refine lv_iconst (v := 1) hx hb d_MD_door_124 (by decide) ?_
                refine lv_isub hx hb d_MD_door_125 ?_
                exact W.iret hx hb hr (fun t ht _ => qr_i h ht hW) hW.2.2.2 d_MD_door_126
              · rw [if_pos c172] at h
                refine lv_iconst (v := 0) hx hb d_MD_door_67 (by decide) ?_
                exact W.iret hx hb hr (fun t ht _ => qr_i h ht hW) hW.2.2.2 d_MD_door_68
            exact k61 x1 x2 x3 x4 1 0 s0 σ h _ _ hW _ (lv_sub hl [0, 1, 2, 3, 4] rfl)
        · rw [if_neg c137] at h
          refine lv_iload hx hb d_MD_door_34 (lv_at hl 4 rfl) ?_
          obtain ⟨r138, g_r138, h⟩ := ob_some h
          refine cl_MD_106 (rest := [.int s0, .ref (ad 0)]) C (hml.trans hl.1.symm) hW.1 g_r138 ⟨Nat.le_of_ble_eq_true rfl, Nat.le_of_ble_eq_true rfl⟩ (Nat.le_of_ble_eq_true rfl) d_MD_door_36 ⟨Nat.zero_le _, Nat.zero_le _⟩ ?_
          refine lv_if_eq (tgt := 46) hx hb d_MD_door_39 (by decide) (fun c139 => ?_) (fun c139 => ?_)
          · rw [if_pos c139] at h
            refine lv_iconst (v := 0) hx hb d_MD_door_46 (by decide) ?_
            refine lv_aload_n hx hb d_MD_door_47 rfl (lv_at hl 0 rfl) ?_
            refine gf_MD_170 C hW.1 d_MD_door_48 ?_
            refine lv_bipush (v := 40) hx hb d_MD_door_51 (by decide) ?_
            refine lv_icmp_ge (tgt := 60) hx hb d_MD_door_53 (by decide) (fun c155 => ?_) (fun c155 => ?_)
            · rw [if_pos c155] at h
              refine lv_iconst (v := 0) hx hb d_MD_door_60 (by decide) ?_
              have k61 : ∀ (x1 : Int32) (x2 : Int32) (x3 : Int32) (x4 : Int32) (s0 : Int32) (s1 : Int32) (s2 : Int32) (σ : Sg) (h : C_MD_door_61 x1 x2 x3 x4 s0 s1 s2 σ = some out) (H : Heap) (locs : List Loc) (hW : WR G ad cI cZ s σ H locs) (ls : Array Slot) (hl : lv_has ls 5 [(0, .ref (ad 0)), (1, .int x1), (2, .int x2), (3, .int x3), (4, .int x4)]), W p l e (headSpec wl_MD_door ({ frames := 1, cells := 0, slots := 0, locals := 23 } : Room)).room s m (([.ref (ad 0), .int a1, .int a2, .int a3, .int a4] : List Value).toArray) below meth c H locs 0 0 (MQ below (QRi G ad cI cZ out) (([.ref (ad 0), .int a1, .int a2, .int a3, .int a4] : List Value).toArray) s 0 0 (AR ad)) (F0 m 61 ls [.int s0, .int s1, .int s2, .ref (ad 0)]) := by
                intro x1 x2 x3 x4 s0 s1 s2 σ h H locs hW ls hl
                unfold C_MD_door_61 at h
                obtain ⟨r163, g_r163, h⟩ := ob_some h
                refine cl_MD_102 (rest := []) C hD (hml.trans hl.1.symm) hW g_r163 ⟨Nat.le_of_ble_eq_true rfl, Nat.le_of_ble_eq_true rfl⟩ (Nat.le_of_ble_eq_true rfl) d_MD_door_61 ⟨Nat.zero_le _, Nat.zero_le _⟩ (fun H locs hW => ?_)
                refine lv_if_ne (tgt := 69) hx hb d_MD_door_64 (by decide) (fun c164 => ?_) (fun c164 => ?_)
                · rw [if_neg c164] at h
                  refine lv_aload_n hx hb d_MD_door_69 rfl (lv_at hl 0 rfl) ?_
                  refine gf_MD_44 C hW.1 d_MD_door_70 ?_
                  refine lv_aload_n hx hb d_MD_door_73 rfl (lv_at hl 0 rfl) ?_
                  refine gf_MD_170 C hW.1 d_MD_door_74 ?_
                  refine lv_iload_n hx hb d_MD_door_77 rfl (lv_at hl 1 rfl) ?_
                  obtain ⟨hin, h⟩ := gd_some h
                  refine asR_12 C hD hW hin d_MD_door_78 (fun H locs hW => ?_)
                  obtain ⟨σ165, e_σ165, h⟩ := lt1_some h
                  rw [← e_σ165] at hW
                  refine lv_aload_n hx hb d_MD_door_79 rfl (lv_at hl 0 rfl) ?_
                  refine gf_MD_47 C hW.1 d_MD_door_80 ?_
                  refine lv_aload_n hx hb d_MD_door_83 rfl (lv_at hl 0 rfl) ?_
                  refine gf_MD_170 C hW.1 d_MD_door_84 ?_
                  refine lv_iload_n hx hb d_MD_door_87 rfl (lv_at hl 2 rfl) ?_
                  obtain ⟨hin, h⟩ := gd_some h
                  refine asR_13 C hD hW hin d_MD_door_88 (fun H locs hW => ?_)
                  obtain ⟨σ166, e_σ166, h⟩ := lt1_some h
                  rw [← e_σ166] at hW
                  refine lv_aload_n hx hb d_MD_door_89 rfl (lv_at hl 0 rfl) ?_
                  refine gf_MD_50 C hW.1 d_MD_door_90 ?_
                  refine lv_aload_n hx hb d_MD_door_93 rfl (lv_at hl 0 rfl) ?_
                  refine gf_MD_170 C hW.1 d_MD_door_94 ?_
                  refine lv_iload_n hx hb d_MD_door_97 rfl (lv_at hl 3 rfl) ?_
                  obtain ⟨hin, h⟩ := gd_some h
                  refine asR_14 C hD hW hin d_MD_door_98 (fun H locs hW => ?_)
                  obtain ⟨σ167, e_σ167, h⟩ := lt1_some h
                  rw [← e_σ167] at hW
                  refine lv_aload_n hx hb d_MD_door_99 rfl (lv_at hl 0 rfl) ?_
                  refine gf_MD_53 C hW.1 d_MD_door_100 ?_
                  refine lv_aload_n hx hb d_MD_door_103 rfl (lv_at hl 0 rfl) ?_
                  refine gf_MD_170 C hW.1 d_MD_door_104 ?_
                  refine lv_iload hx hb d_MD_door_107 (lv_at hl 4 rfl) ?_
                  obtain ⟨hin, h⟩ := gd_some h
                  refine asR_15 C hD hW hin d_MD_door_109 (fun H locs hW => ?_)
                  obtain ⟨σ168, e_σ168, h⟩ := lt1_some h
                  rw [← e_σ168] at hW
                  refine lv_aload_n hx hb d_MD_door_110 rfl (lv_at hl 0 rfl) ?_
                  refine lv_dup hx hb d_MD_door_111 rfl ?_
                  refine gf_MD_170 C hW.1 d_MD_door_112 ?_
                  refine lv_iconst (v := 1) hx hb d_MD_door_115 (by decide) ?_
                  refine lv_iadd hx hb d_MD_door_116 ?_
                  refine pf_MD_170 C hD hW d_MD_door_117 (fun H locs hW => ?_)
                  obtain ⟨σ169, e_σ169, h⟩ := lt1_some h
                  rw [← e_σ169] at hW
                  refine lv_aload_n hx hb d_MD_door_120 rfl (lv_at hl 0 rfl) ?_
                  refine gf_MD_170 C hW.1 d_MD_door_121 ?_
                  refine lv_iconst (v := 1) hx hb d_MD_door_124 (by decide) ?_
                  refine lv_isub hx hb d_MD_door_125 ?_
                  exact W.iret hx hb hr (fun t ht _ => qr_i h ht hW) hW.2.2.2 d_MD_door_126
                · rw [if_pos c164] at h
                  refine lv_iconst (v := 0) hx hb d_MD_door_67 (by decide) ?_
                  exact W.iret hx hb hr (fun t ht _ => qr_i h ht hW) hW.2.2.2 d_MD_door_68
              exact k61 x1 x2 x3 x4 0 0 s0 σ h _ _ hW _ (lv_sub hl [0, 1, 2, 3, 4] rfl)
            · rw [if_neg c155] at h
              refine lv_iconst (v := 1) hx hb d_MD_door_56 (by decide) ?_
              refine lv_goto (tgt := 61) hx hb d_MD_door_57 (by decide) ?_
              have k61 : ∀ (x1 : Int32) (x2 : Int32) (x3 : Int32) (x4 : Int32) (s0 : Int32) (s1 : Int32) (s2 : Int32) (σ : Sg) (h : C_MD_door_61 x1 x2 x3 x4 s0 s1 s2 σ = some out) (H : Heap) (locs : List Loc) (hW : WR G ad cI cZ s σ H locs) (ls : Array Slot) (hl : lv_has ls 5 [(0, .ref (ad 0)), (1, .int x1), (2, .int x2), (3, .int x3), (4, .int x4)]), W p l e (headSpec wl_MD_door ({ frames := 1, cells := 0, slots := 0, locals := 23 } : Room)).room s m (([.ref (ad 0), .int a1, .int a2, .int a3, .int a4] : List Value).toArray) below meth c H locs 0 0 (MQ below (QRi G ad cI cZ out) (([.ref (ad 0), .int a1, .int a2, .int a3, .int a4] : List Value).toArray) s 0 0 (AR ad)) (F0 m 61 ls [.int s0, .int s1, .int s2, .ref (ad 0)]) := by
                intro x1 x2 x3 x4 s0 s1 s2 σ h H locs hW ls hl
                unfold C_MD_door_61 at h
                obtain ⟨r156, g_r156, h⟩ := ob_some h
                refine cl_MD_102 (rest := []) C hD (hml.trans hl.1.symm) hW g_r156 ⟨Nat.le_of_ble_eq_true rfl, Nat.le_of_ble_eq_true rfl⟩ (Nat.le_of_ble_eq_true rfl) d_MD_door_61 ⟨Nat.zero_le _, Nat.zero_le _⟩ (fun H locs hW => ?_)
                refine lv_if_ne (tgt := 69) hx hb d_MD_door_64 (by decide) (fun c157 => ?_) (fun c157 => ?_)
                · rw [if_neg c157] at h
                  refine lv_aload_n hx hb d_MD_door_69 rfl (lv_at hl 0 rfl) ?_
                  refine gf_MD_44 C hW.1 d_MD_door_70 ?_
                  refine lv_aload_n hx hb d_MD_door_73 rfl (lv_at hl 0 rfl) ?_
                  refine gf_MD_170 C hW.1 d_MD_door_74 ?_
                  refine lv_iload_n hx hb d_MD_door_77 rfl (lv_at hl 1 rfl) ?_
                  obtain ⟨hin, h⟩ := gd_some h
                  refine asR_12 C hD hW hin d_MD_door_78 (fun H locs hW => ?_)
                  obtain ⟨σ158, e_σ158, h⟩ := lt1_some h
                  rw [← e_σ158] at hW
                  refine lv_aload_n hx hb d_MD_door_79 rfl (lv_at hl 0 rfl) ?_
                  refine gf_MD_47 C hW.1 d_MD_door_80 ?_
                  refine lv_aload_n hx hb d_MD_door_83 rfl (lv_at hl 0 rfl) ?_
                  refine gf_MD_170 C hW.1 d_MD_door_84 ?_
                  refine lv_iload_n hx hb d_MD_door_87 rfl (lv_at hl 2 rfl) ?_
                  obtain ⟨hin, h⟩ := gd_some h
                  refine asR_13 C hD hW hin d_MD_door_88 (fun H locs hW => ?_)
                  obtain ⟨σ159, e_σ159, h⟩ := lt1_some h
                  rw [← e_σ159] at hW
                  refine lv_aload_n hx hb d_MD_door_89 rfl (lv_at hl 0 rfl) ?_
                  refine gf_MD_50 C hW.1 d_MD_door_90 ?_
                  refine lv_aload_n hx hb d_MD_door_93 rfl (lv_at hl 0 rfl) ?_
                  refine gf_MD_170 C hW.1 d_MD_door_94 ?_
                  refine lv_iload_n hx hb d_MD_door_97 rfl (lv_at hl 3 rfl) ?_
                  obtain ⟨hin, h⟩ := gd_some h
                  refine asR_14 C hD hW hin d_MD_door_98 (fun H locs hW => ?_)
                  obtain ⟨σ160, e_σ160, h⟩ := lt1_some h
                  rw [← e_σ160] at hW
                  refine lv_aload_n hx hb d_MD_door_99 rfl (lv_at hl 0 rfl) ?_
                  refine gf_MD_53 C hW.1 d_MD_door_100 ?_
                  refine lv_aload_n hx hb d_MD_door_103 rfl (lv_at hl 0 rfl) ?_
                  refine gf_MD_170 C hW.1 d_MD_door_104 ?_
                  refine lv_iload hx hb d_MD_door_107 (lv_at hl 4 rfl) ?_
                  obtain ⟨hin, h⟩ := gd_some h
                  refine asR_15 C hD hW hin d_MD_door_109 (fun H locs hW => ?_)
                  obtain ⟨σ161, e_σ161, h⟩ := lt1_some h
                  rw [← e_σ161] at hW
                  refine lv_aload_n hx hb d_MD_door_110 rfl (lv_at hl 0 rfl) ?_
                  refine lv_dup hx hb d_MD_door_111 rfl ?_
                  refine gf_MD_170 C hW.1 d_MD_door_112 ?_
                  refine lv_iconst (v := 1) hx hb d_MD_door_115 (by decide) ?_
                  refine lv_iadd hx hb d_MD_door_116 ?_
                  refine pf_MD_170 C hD hW d_MD_door_117 (fun H locs hW => ?_)
                  obtain ⟨σ162, e_σ162, h⟩ := lt1_some h
                  rw [← e_σ162] at hW
                  refine lv_aload_n hx hb d_MD_door_120 rfl (lv_at hl 0 rfl) ?_
                  refine gf_MD_170 C hW.1 d_MD_door_121 ?_
                  refine lv_iconst (v := 1) hx hb d_MD_door_124 (by decide) ?_
                  refine lv_isub hx hb d_MD_door_125 ?_
                  exact W.iret hx hb hr (fun t ht _ => qr_i h ht hW) hW.2.2.2 d_MD_door_126
                · rw [if_pos c157] at h
                  refine lv_iconst (v := 0) hx hb d_MD_door_67 (by decide) ?_
                  exact W.iret hx hb hr (fun t ht _ => qr_i h ht hW) hW.2.2.2 d_MD_door_68
              exact k61 x1 x2 x3 x4 1 0 s0 σ h _ _ hW _ (lv_sub hl [0, 1, 2, 3, 4] rfl)
          · rw [if_neg c139] at h
            refine lv_iconst (v := 1) hx hb d_MD_door_42 (by decide) ?_
            refine lv_goto (tgt := 47) hx hb d_MD_door_43 (by decide) ?_
            refine lv_aload_n hx hb d_MD_door_47 rfl (lv_at hl 0 rfl) ?_
            refine gf_MD_170 C hW.1 d_MD_door_48 ?_
            refine lv_bipush (v := 40) hx hb d_MD_door_51 (by decide) ?_
            refine lv_icmp_ge (tgt := 60) hx hb d_MD_door_53 (by decide) (fun c140 => ?_) (fun c140 => ?_)
            · rw [if_pos c140] at h
              refine lv_iconst (v := 0) hx hb d_MD_door_60 (by decide) ?_
              have k61 : ∀ (x1 : Int32) (x2 : Int32) (x3 : Int32) (x4 : Int32) (s0 : Int32) (s1 : Int32) (s2 : Int32) (σ : Sg) (h : C_MD_door_61 x1 x2 x3 x4 s0 s1 s2 σ = some out) (H : Heap) (locs : List Loc) (hW : WR G ad cI cZ s σ H locs) (ls : Array Slot) (hl : lv_has ls 5 [(0, .ref (ad 0)), (1, .int x1), (2, .int x2), (3, .int x3), (4, .int x4)]), W p l e (headSpec wl_MD_door ({ frames := 1, cells := 0, slots := 0, locals := 23 } : Room)).room s m (([.ref (ad 0), .int a1, .int a2, .int a3, .int a4] : List Value).toArray) below meth c H locs 0 0 (MQ below (QRi G ad cI cZ out) (([.ref (ad 0), .int a1, .int a2, .int a3, .int a4] : List Value).toArray) s 0 0 (AR ad)) (F0 m 61 ls [.int s0, .int s1, .int s2, .ref (ad 0)]) := by
                intro x1 x2 x3 x4 s0 s1 s2 σ h H locs hW ls hl
                unfold C_MD_door_61 at h
                obtain ⟨r148, g_r148, h⟩ := ob_some h
                refine cl_MD_102 (rest := []) C hD (hml.trans hl.1.symm) hW g_r148 ⟨Nat.le_of_ble_eq_true rfl, Nat.le_of_ble_eq_true rfl⟩ (Nat.le_of_ble_eq_true rfl) d_MD_door_61 ⟨Nat.zero_le _, Nat.zero_le _⟩ (fun H locs hW => ?_)
                refine lv_if_ne (tgt := 69) hx hb d_MD_door_64 (by decide) (fun c149 => ?_) (fun c149 => ?_)
                · rw [if_neg c149] at h
                  refine lv_aload_n hx hb d_MD_door_69 rfl (lv_at hl 0 rfl) ?_
                  refine gf_MD_44 C hW.1 d_MD_door_70 ?_
                  refine lv_aload_n hx hb d_MD_door_73 rfl (lv_at hl 0 rfl) ?_
                  refine gf_MD_170 C hW.1 d_MD_door_74 ?_
                  refine lv_iload_n hx hb d_MD_door_77 rfl (lv_at hl 1 rfl) ?_
                  obtain ⟨hin, h⟩ := gd_some h
                  refine asR_12 C hD hW hin d_MD_door_78 (fun H locs hW => ?_)
                  obtain ⟨σ150, e_σ150, h⟩ := lt1_some h
                  rw [← e_σ150] at hW
                  refine lv_aload_n hx hb d_MD_door_79 rfl (lv_at hl 0 rfl) ?_
                  refine gf_MD_47 C hW.1 d_MD_door_80 ?_
                  refine lv_aload_n hx hb d_MD_door_83 rfl (lv_at hl 0 rfl) ?_
                  refine gf_MD_170 C hW.1 d_MD_door_84 ?_
                  refine lv_iload_n hx hb d_MD_door_87 rfl (lv_at hl 2 rfl) ?_
                  obtain ⟨hin, h⟩ := gd_some h
                  refine asR_13 C hD hW hin d_MD_door_88 (fun H locs hW => ?_)
                  obtain ⟨σ151, e_σ151, h⟩ := lt1_some h
                  rw [← e_σ151] at hW
                  refine lv_aload_n hx hb d_MD_door_89 rfl (lv_at hl 0 rfl) ?_
                  refine gf_MD_50 C hW.1 d_MD_door_90 ?_
                  refine lv_aload_n hx hb d_MD_door_93 rfl (lv_at hl 0 rfl) ?_
                  refine gf_MD_170 C hW.1 d_MD_door_94 ?_
                  refine lv_iload_n hx hb d_MD_door_97 rfl (lv_at hl 3 rfl) ?_
                  obtain ⟨hin, h⟩ := gd_some h
                  refine asR_14 C hD hW hin d_MD_door_98 (fun H locs hW => ?_)
                  obtain ⟨σ152, e_σ152, h⟩ := lt1_some h
                  rw [← e_σ152] at hW
                  refine lv_aload_n hx hb d_MD_door_99 rfl (lv_at hl 0 rfl) ?_
                  refine gf_MD_53 C hW.1 d_MD_door_100 ?_
                  refine lv_aload_n hx hb d_MD_door_103 rfl (lv_at hl 0 rfl) ?_
                  refine gf_MD_170 C hW.1 d_MD_door_104 ?_
                  refine lv_iload hx hb d_MD_door_107 (lv_at hl 4 rfl) ?_
                  obtain ⟨hin, h⟩ := gd_some h
                  refine asR_15 C hD hW hin d_MD_door_109 (fun H locs hW => ?_)
                  obtain ⟨σ153, e_σ153, h⟩ := lt1_some h
                  rw [← e_σ153] at hW
                  refine lv_aload_n hx hb d_MD_door_110 rfl (lv_at hl 0 rfl) ?_
                  refine lv_dup hx hb d_MD_door_111 rfl ?_
                  refine gf_MD_170 C hW.1 d_MD_door_112 ?_
                  refine lv_iconst (v := 1) hx hb d_MD_door_115 (by decide) ?_
                  refine lv_iadd hx hb d_MD_door_116 ?_
                  refine pf_MD_170 C hD hW d_MD_door_117 (fun H locs hW => ?_)
                  obtain ⟨σ154, e_σ154, h⟩ := lt1_some h
                  rw [← e_σ154] at hW
                  refine lv_aload_n hx hb d_MD_door_120 rfl (lv_at hl 0 rfl) ?_
                  refine gf_MD_170 C hW.1 d_MD_door_121 ?_
                  refine lv_iconst (v := 1) hx hb d_MD_door_124 (by decide) ?_
                  refine lv_isub hx hb d_MD_door_125 ?_
                  exact W.iret hx hb hr (fun t ht _ => qr_i h ht hW) hW.2.2.2 d_MD_door_126
                · rw [if_pos c149] at h
                  refine lv_iconst (v := 0) hx hb d_MD_door_67 (by decide) ?_
                  exact W.iret hx hb hr (fun t ht _ => qr_i h ht hW) hW.2.2.2 d_MD_door_68
              exact k61 x1 x2 x3 x4 0 1 s0 σ h _ _ hW _ (lv_sub hl [0, 1, 2, 3, 4] rfl)
            · rw [if_neg c140] at h
              refine lv_iconst (v := 1) hx hb d_MD_door_56 (by decide) ?_
              refine lv_goto (tgt := 61) hx hb d_MD_door_57 (by decide) ?_
              have k61 : ∀ (x1 : Int32) (x2 : Int32) (x3 : Int32) (x4 : Int32) (s0 : Int32) (s1 : Int32) (s2 : Int32) (σ : Sg) (h : C_MD_door_61 x1 x2 x3 x4 s0 s1 s2 σ = some out) (H : Heap) (locs : List Loc) (hW : WR G ad cI cZ s σ H locs) (ls : Array Slot) (hl : lv_has ls 5 [(0, .ref (ad 0)), (1, .int x1), (2, .int x2), (3, .int x3), (4, .int x4)]), W p l e (headSpec wl_MD_door ({ frames := 1, cells := 0, slots := 0, locals := 23 } : Room)).room s m (([.ref (ad 0), .int a1, .int a2, .int a3, .int a4] : List Value).toArray) below meth c H locs 0 0 (MQ below (QRi G ad cI cZ out) (([.ref (ad 0), .int a1, .int a2, .int a3, .int a4] : List Value).toArray) s 0 0 (AR ad)) (F0 m 61 ls [.int s0, .int s1, .int s2, .ref (ad 0)]) := by
                intro x1 x2 x3 x4 s0 s1 s2 σ h H locs hW ls hl
                unfold C_MD_door_61 at h
                obtain ⟨r141, g_r141, h⟩ := ob_some h
                refine cl_MD_102 (rest := []) C hD (hml.trans hl.1.symm) hW g_r141 ⟨Nat.le_of_ble_eq_true rfl, Nat.le_of_ble_eq_true rfl⟩ (Nat.le_of_ble_eq_true rfl) d_MD_door_61 ⟨Nat.zero_le _, Nat.zero_le _⟩ (fun H locs hW => ?_)
                refine lv_if_ne (tgt := 69) hx hb d_MD_door_64 (by decide) (fun c142 => ?_) (fun c142 => ?_)
                · rw [if_neg c142] at h
                  refine lv_aload_n hx hb d_MD_door_69 rfl (lv_at hl 0 rfl) ?_
                  refine gf_MD_44 C hW.1 d_MD_door_70 ?_
                  refine lv_aload_n hx hb d_MD_door_73 rfl (lv_at hl 0 rfl) ?_
                  refine gf_MD_170 C hW.1 d_MD_door_74 ?_
                  refine lv_iload_n hx hb d_MD_door_77 rfl (lv_at hl 1 rfl) ?_
                  obtain ⟨hin, h⟩ := gd_some h
                  refine asR_12 C hD hW hin d_MD_door_78 (fun H locs hW => ?_)
                  obtain ⟨σ143, e_σ143, h⟩ := lt1_some h
                  rw [← e_σ143] at hW
                  refine lv_aload_n hx hb d_MD_door_79 rfl (lv_at hl 0 rfl) ?_
                  refine gf_MD_47 C hW.1 d_MD_door_80 ?_
                  refine lv_aload_n hx hb d_MD_door_83 rfl (lv_at hl 0 rfl) ?_
                  refine gf_MD_170 C hW.1 d_MD_door_84 ?_
                  refine lv_iload_n hx hb d_MD_door_87 rfl (lv_at hl 2 rfl) ?_
                  obtain ⟨hin, h⟩ := gd_some h
                  refine asR_13 C hD hW hin d_MD_door_88 (fun H locs hW => ?_)
                  obtain ⟨σ144, e_σ144, h⟩ := lt1_some h
                  rw [← e_σ144] at hW
                  refine lv_aload_n hx hb d_MD_door_89 rfl (lv_at hl 0 rfl) ?_
                  refine gf_MD_50 C hW.1 d_MD_door_90 ?_
                  refine lv_aload_n hx hb d_MD_door_93 rfl (lv_at hl 0 rfl) ?_
                  refine gf_MD_170 C hW.1 d_MD_door_94 ?_
                  refine lv_iload_n hx hb d_MD_door_97 rfl (lv_at hl 3 rfl) ?_
                  obtain ⟨hin, h⟩ := gd_some h
                  refine asR_14 C hD hW hin d_MD_door_98 (fun H locs hW => ?_)
                  obtain ⟨σ145, e_σ145, h⟩ := lt1_some h
                  rw [← e_σ145] at hW
                  refine lv_aload_n hx hb d_MD_door_99 rfl (lv_at hl 0 rfl) ?_
                  refine gf_MD_53 C hW.1 d_MD_door_100 ?_
                  refine lv_aload_n hx hb d_MD_door_103 rfl (lv_at hl 0 rfl) ?_
                  refine gf_MD_170 C hW.1 d_MD_door_104 ?_
                  refine lv_iload hx hb d_MD_door_107 (lv_at hl 4 rfl) ?_
                  obtain ⟨hin, h⟩ := gd_some h
                  refine asR_15 C hD hW hin d_MD_door_109 (fun H locs hW => ?_)
                  obtain ⟨σ146, e_σ146, h⟩ := lt1_some h
                  rw [← e_σ146] at hW
                  refine lv_aload_n hx hb d_MD_door_110 rfl (lv_at hl 0 rfl) ?_
                  refine lv_dup hx hb d_MD_door_111 rfl ?_
                  refine gf_MD_170 C hW.1 d_MD_door_112 ?_
                  refine lv_iconst (v := 1) hx hb d_MD_door_115 (by decide) ?_
                  refine lv_iadd hx hb d_MD_door_116 ?_
                  refine pf_MD_170 C hD hW d_MD_door_117 (fun H locs hW => ?_)
                  obtain ⟨σ147, e_σ147, h⟩ := lt1_some h
                  rw [← e_σ147] at hW
                  refine lv_aload_n hx hb d_MD_door_120 rfl (lv_at hl 0 rfl) ?_
                  refine gf_MD_170 C hW.1 d_MD_door_121 ?_
                  refine lv_iconst (v := 1) hx hb d_MD_door_124 (by decide) ?_
                  refine lv_isub hx hb d_MD_door_125 ?_
                  exact W.iret hx hb hr (fun t ht _ => qr_i h ht hW) hW.2.2.2 d_MD_door_126
                · rw [if_pos c142] at h
                  refine lv_iconst (v := 0) hx hb d_MD_door_67 (by decide) ?_
                  exact W.iret hx hb hr (fun t ht _ => qr_i h ht hW) hW.2.2.2 d_MD_door_68
              exact k61 x1 x2 x3 x4 1 1 s0 σ h _ _ hW _ (lv_sub hl [0, 1, 2, 3, 4] rfl)
    exact k22 a1 a2 a3 a4 0 σ h _ _ hW _ (lv_sub hl [0, 1, 2, 3, 4] rfl)
  · rw [if_neg c2] at h
    refine lv_aload_n hx hb d_MD_door_9 rfl (lv_at hl 0 rfl) ?_
    refine lv_iload_n hx hb d_MD_door_10 rfl (lv_at hl 2 rfl) ?_
    obtain ⟨r3, g_r3, h⟩ := ob_some h
    refine cl_MD_93 (rest := [.ref (ad 0)]) C (hml.trans hl.1.symm) hW.1 g_r3 ⟨Nat.le_of_ble_eq_true rfl, Nat.le_of_ble_eq_true rfl⟩ (Nat.le_of_ble_eq_true rfl) d_MD_door_11 ⟨Nat.zero_le _, Nat.zero_le _⟩ ?_
    refine lv_if_eq (tgt := 21) hx hb d_MD_door_14 (by decide) (fun c4 => ?_) (fun c4 => ?_)
    · rw [if_pos c4] at h
      refine lv_iconst (v := 0) hx hb d_MD_door_21 (by decide) ?_
      have k22 : ∀ (x1 : Int32) (x2 : Int32) (x3 : Int32) (x4 : Int32) (s0 : Int32) (σ : Sg) (h : C_MD_door_22 x1 x2 x3 x4 s0 σ = some out) (H : Heap) (locs : List Loc) (hW : WR G ad cI cZ s σ H locs) (ls : Array Slot) (hl : lv_has ls 5 [(0, .ref (ad 0)), (1, .int x1), (2, .int x2), (3, .int x3), (4, .int x4)]), W p l e (headSpec wl_MD_door ({ frames := 1, cells := 0, slots := 0, locals := 23 } : Room)).room s m (([.ref (ad 0), .int a1, .int a2, .int a3, .int a4] : List Value).toArray) below meth c H locs 0 0 (MQ below (QRi G ad cI cZ out) (([.ref (ad 0), .int a1, .int a2, .int a3, .int a4] : List Value).toArray) s 0 0 (AR ad)) (F0 m 22 ls [.int s0, .ref (ad 0)]) := by
        intro x1 x2 x3 x4 s0 σ h H locs hW ls hl
        unfold C_MD_door_22 at h
        refine lv_iload_n hx hb d_MD_door_22 rfl (lv_at hl 1 rfl) ?_
        refine lv_iload_n hx hb d_MD_door_23 rfl (lv_at hl 2 rfl) ?_
        refine lv_icmp_eq (tgt := 46) hx hb d_MD_door_24 (by decide) (fun c70 => ?_) (fun c70 => ?_)
        · rw [if_pos c70] at h
          refine lv_iconst (v := 0) hx hb d_MD_door_46 (by decide) ?_
          refine lv_aload_n hx hb d_MD_door_47 rfl (lv_at hl 0 rfl) ?_
          refine gf_MD_170 C hW.1 d_MD_door_48 ?_
          refine lv_bipush (v := 40) hx hb d_MD_door_51 (by decide) ?_
          refine lv_icmp_ge (tgt := 60) hx hb d_MD_door_53 (by decide) (fun c120 => ?_) (fun c120 => ?_)
          · rw [if_pos c120] at h
            refine lv_iconst (v := 0) hx hb d_MD_door_60 (by decide) ?_
            have k61 : ∀ (x1 : Int32) (x2 : Int32) (x3 : Int32) (x4 : Int32) (s0 : Int32) (s1 : Int32) (s2 : Int32) (σ : Sg) (h : C_MD_door_61 x1 x2 x3 x4 s0 s1 s2 σ = some out) (H : Heap) (locs : List Loc) (hW : WR G ad cI cZ s σ H locs) (ls : Array Slot) (hl : lv_has ls 5 [(0, .ref (ad 0)), (1, .int x1), (2, .int x2), (3, .int x3), (4, .int x4)]), W p l e (headSpec wl_MD_door ({ frames := 1, cells := 0, slots := 0, locals := 23 } : Room)).room s m (([.ref (ad 0), .int a1, .int a2, .int a3, .int a4] : List Value).toArray) below meth c H locs 0 0 (MQ below (QRi G ad cI cZ out) (([.ref (ad 0), .int a1, .int a2, .int a3, .int a4] : List Value).toArray) s 0 0 (AR ad)) (F0 m 61 ls [.int s0, .int s1, .int s2, .ref (ad 0)]) := by
              intro x1 x2 x3 x4 s0 s1 s2 σ h H locs hW ls hl
              unfold C_MD_door_61 at h
              obtain ⟨r128, g_r128, h⟩ := ob_some h
              refine cl_MD_102 (rest := []) C hD (hml.trans hl.1.symm) hW g_r128 ⟨Nat.le_of_ble_eq_true rfl, Nat.le_of_ble_eq_true rfl⟩ (Nat.le_of_ble_eq_true rfl) d_MD_door_61 ⟨Nat.zero_le _, Nat.zero_le _⟩ (fun H locs hW => ?_)
              refine lv_if_ne (tgt := 69) hx hb d_MD_door_64 (by decide) (fun c129 => ?_) (fun c129 => ?_)
              · rw [if_neg c129] at h
                refine lv_aload_n hx hb d_MD_door_69 rfl (lv_at hl 0 rfl) ?_
                refine gf_MD_44 C hW.1 d_MD_door_70 ?_
                refine lv_aload_n hx hb d_MD_door_73 rfl (lv_at hl 0 rfl) ?_
                refine gf_MD_170 C hW.1 d_MD_door_74 ?_
                refine lv_iload_n hx hb d_MD_door_77 rfl (lv_at hl 1 rfl) ?_
                obtain ⟨hin, h⟩ := gd_some h
                refine asR_12 C hD hW hin d_MD_door_78 (fun H locs hW => ?_)
                obtain ⟨σ130, e_σ130, h⟩ := lt1_some h
                rw [← e_σ130] at hW
                refine lv_aload_n hx hb d_MD_door_79 rfl (lv_at hl 0 rfl) ?_
                refine gf_MD_47 C hW.1 d_MD_door_80 ?_
                refine lv_aload_n hx hb d_MD_door_83 rfl (lv_at hl 0 rfl) ?_
                refine gf_MD_170 C hW.1 d_MD_door_84 ?_
                refine lv_iload_n hx hb d_MD_door_87 rfl (lv_at hl 2 rfl) ?_
                obtain ⟨hin, h⟩ := gd_some h
                refine asR_13 C hD hW hin d_MD_door_88 (fun H locs hW => ?_)
                obtain ⟨σ131, e_σ131, h⟩ := lt1_some h
                rw [← e_σ131] at hW
                refine lv_aload_n hx hb d_MD_door_89 rfl (lv_at hl 0 rfl) ?_
                refine gf_MD_50 C hW.1 d_MD_door_90 ?_
                refine lv_aload_n hx hb d_MD_door_93 rfl (lv_at hl 0 rfl) ?_
                refine gf_MD_170 C hW.1 d_MD_door_94 ?_
                refine lv_iload_n hx hb d_MD_door_97 rfl (lv_at hl 3 rfl) ?_
                obtain ⟨hin, h⟩ := gd_some h
                refine asR_14 C hD hW hin d_MD_door_98 (fun H locs hW => ?_)
                obtain ⟨σ132, e_σ132, h⟩ := lt1_some h
                rw [← e_σ132] at hW
                refine lv_aload_n hx hb d_MD_door_99 rfl (lv_at hl 0 rfl) ?_
                refine gf_MD_53 C hW.1 d_MD_door_100 ?_
                refine lv_aload_n hx hb d_MD_door_103 rfl (lv_at hl 0 rfl) ?_
                refine gf_MD_170 C hW.1 d_MD_door_104 ?_
                refine lv_iload hx hb d_MD_door_107 (lv_at hl 4 rfl) ?_
                obtain ⟨hin, h⟩ := gd_some h
                refine asR_15 C hD hW hin d_MD_door_109 (fun H locs hW => ?_)
                obtain ⟨σ133, e_σ133, h⟩ := lt1_some h
                rw [← e_σ133] at hW
                refine lv_aload_n hx hb d_MD_door_110 rfl (lv_at hl 0 rfl) ?_
                refine lv_dup hx hb d_MD_door_111 rfl ?_
                refine gf_MD_170 C hW.1 d_MD_door_112 ?_
                refine lv_iconst (v := 1) hx hb d_MD_door_115 (by decide) ?_
                refine lv_iadd hx hb d_MD_door_116 ?_
                refine pf_MD_170 C hD hW d_MD_door_117 (fun H locs hW => ?_)
                obtain ⟨σ134, e_σ134, h⟩ := lt1_some h
                rw [← e_σ134] at hW
                refine lv_aload_n hx hb d_MD_door_120 rfl (lv_at hl 0 rfl) ?_
                refine gf_MD_170 C hW.1 d_MD_door_121 ?_
                refine lv_iconst (v := 1) hx hb d_MD_door_124 (by decide) ?_
                refine lv_isub hx hb d_MD_door_125 ?_
                exact W.iret hx hb hr (fun t ht _ => qr_i h ht hW) hW.2.2.2 d_MD_door_126
              · rw [if_pos c129] at h
                refine lv_iconst (v := 0) hx hb d_MD_door_67 (by decide) ?_
                exact W.iret hx hb hr (fun t ht _ => qr_i h ht hW) hW.2.2.2 d_MD_door_68
            exact k61 x1 x2 x3 x4 0 0 s0 σ h _ _ hW _ (lv_sub hl [0, 1, 2, 3, 4] rfl)
          · rw [if_neg c120] at h
            refine lv_iconst (v := 1) hx hb d_MD_door_56 (by decide) ?_
            refine lv_goto (tgt := 61) hx hb d_MD_door_57 (by decide) ?_
            have k61 : ∀ (x1 : Int32) (x2 : Int32) (x3 : Int32) (x4 : Int32) (s0 : Int32) (s1 : Int32) (s2 : Int32) (σ : Sg) (h : C_MD_door_61 x1 x2 x3 x4 s0 s1 s2 σ = some out) (H : Heap) (locs : List Loc) (hW : WR G ad cI cZ s σ H locs) (ls : Array Slot) (hl : lv_has ls 5 [(0, .ref (ad 0)), (1, .int x1), (2, .int x2), (3, .int x3), (4, .int x4)]), W p l e (headSpec wl_MD_door ({ frames := 1, cells := 0, slots := 0, locals := 23 } : Room)).room s m (([.ref (ad 0), .int a1, .int a2, .int a3, .int a4] : List Value).toArray) below meth c H locs 0 0 (MQ below (QRi G ad cI cZ out) (([.ref (ad 0), .int a1, .int a2, .int a3, .int a4] : List Value).toArray) s 0 0 (AR ad)) (F0 m 61 ls [.int s0, .int s1, .int s2, .ref (ad 0)]) := by
              intro x1 x2 x3 x4 s0 s1 s2 σ h H locs hW ls hl
              unfold C_MD_door_61 at h
              obtain ⟨r121, g_r121, h⟩ := ob_some h
              refine cl_MD_102 (rest := []) C hD (hml.trans hl.1.symm) hW g_r121 ⟨Nat.le_of_ble_eq_true rfl, Nat.le_of_ble_eq_true rfl⟩ (Nat.le_of_ble_eq_true rfl) d_MD_door_61 ⟨Nat.zero_le _, Nat.zero_le _⟩ (fun H locs hW => ?_)
              refine lv_if_ne (tgt := 69) hx hb d_MD_door_64 (by decide) (fun c122 => ?_) (fun c122 => ?_)
              · rw [if_neg c122] at h
                refine lv_aload_n hx hb d_MD_door_69 rfl (lv_at hl 0 rfl) ?_
                refine gf_MD_44 C hW.1 d_MD_door_70 ?_
                refine lv_aload_n hx hb d_MD_door_73 rfl (lv_at hl 0 rfl) ?_
                refine gf_MD_170 C hW.1 d_MD_door_74 ?_
                refine lv_iload_n hx hb d_MD_door_77 rfl (lv_at hl 1 rfl) ?_
                obtain ⟨hin, h⟩ := gd_some h
                refine asR_12 C hD hW hin d_MD_door_78 (fun H locs hW => ?_)
                obtain ⟨σ123, e_σ123, h⟩ := lt1_some h
                rw [← e_σ123] at hW
                refine lv_aload_n hx hb d_MD_door_79 rfl (lv_at hl 0 rfl) ?_
                refine gf_MD_47 C hW.1 d_MD_door_80 ?_
                refine lv_aload_n hx hb d_MD_door_83 rfl (lv_at hl 0 rfl) ?_
                refine gf_MD_170 C hW.1 d_MD_door_84 ?_
                refine lv_iload_n hx hb d_MD_door_87 rfl (lv_at hl 2 rfl) ?_
                obtain ⟨hin, h⟩ := gd_some h
                refine asR_13 C hD hW hin d_MD_door_88 (fun H locs hW => ?_)
                obtain ⟨σ124, e_σ124, h⟩ := lt1_some h
                rw [← e_σ124] at hW
                refine lv_aload_n hx hb d_MD_door_89 rfl (lv_at hl 0 rfl) ?_
                refine gf_MD_50 C hW.1 d_MD_door_90 ?_
                refine lv_aload_n hx hb d_MD_door_93 rfl (lv_at hl 0 rfl) ?_
                refine gf_MD_170 C hW.1 d_MD_door_94 ?_
                refine lv_iload_n hx hb d_MD_door_97 rfl (lv_at hl 3 rfl) ?_
                obtain ⟨hin, h⟩ := gd_some h
                refine asR_14 C hD hW hin d_MD_door_98 (fun H locs hW => ?_)
                obtain ⟨σ125, e_σ125, h⟩ := lt1_some h
                rw [← e_σ125] at hW
                refine lv_aload_n hx hb d_MD_door_99 rfl (lv_at hl 0 rfl) ?_
                refine gf_MD_53 C hW.1 d_MD_door_100 ?_
                refine lv_aload_n hx hb d_MD_door_103 rfl (lv_at hl 0 rfl) ?_
                refine gf_MD_170 C hW.1 d_MD_door_104 ?_
                refine lv_iload hx hb d_MD_door_107 (lv_at hl 4 rfl) ?_
                obtain ⟨hin, h⟩ := gd_some h
                refine asR_15 C hD hW hin d_MD_door_109 (fun H locs hW => ?_)
                obtain ⟨σ126, e_σ126, h⟩ := lt1_some h
                rw [← e_σ126] at hW
                refine lv_aload_n hx hb d_MD_door_110 rfl (lv_at hl 0 rfl) ?_
                refine lv_dup hx hb d_MD_door_111 rfl ?_
                refine gf_MD_170 C hW.1 d_MD_door_112 ?_
                refine lv_iconst (v := 1) hx hb d_MD_door_115 (by decide) ?_
                refine lv_iadd hx hb d_MD_door_116 ?_
                refine pf_MD_170 C hD hW d_MD_door_117 (fun H locs hW => ?_)
                obtain ⟨σ127, e_σ127, h⟩ := lt1_some h
                rw [← e_σ127] at hW
                refine lv_aload_n hx hb d_MD_door_120 rfl (lv_at hl 0 rfl) ?_
                refine gf_MD_170 C hW.1 d_MD_door_121 ?_
                refine lv_iconst (v := 1) hx hb d_MD_door_124 (by decide) ?_
                refine lv_isub hx hb d_MD_door_125 ?_
                exact W.iret hx hb hr (fun t ht _ => qr_i h ht hW) hW.2.2.2 d_MD_door_126
              · rw [if_pos c122] at h
                refine lv_iconst (v := 0) hx hb d_MD_door_67 (by decide) ?_
                exact W.iret hx hb hr (fun t ht _ => qr_i h ht hW) hW.2.2.2 d_MD_door_68
            exact k61 x1 x2 x3 x4 1 0 s0 σ h _ _ hW _ (lv_sub hl [0, 1, 2, 3, 4] rfl)
        · rw [if_neg c70] at h
          refine lv_iload_n hx hb d_MD_door_27 rfl (lv_at hl 3 rfl) ?_
          obtain ⟨r71, g_r71, h⟩ := ob_some h
          refine cl_MD_106 (rest := [.int s0, .ref (ad 0)]) C (hml.trans hl.1.symm) hW.1 g_r71 ⟨Nat.le_of_ble_eq_true rfl, Nat.le_of_ble_eq_true rfl⟩ (Nat.le_of_ble_eq_true rfl) d_MD_door_28 ⟨Nat.zero_le _, Nat.zero_le _⟩ ?_
          refine lv_if_eq (tgt := 46) hx hb d_MD_door_31 (by decide) (fun c72 => ?_) (fun c72 => ?_)
          · rw [if_pos c72] at h
            refine lv_iconst (v := 0) hx hb d_MD_door_46 (by decide) ?_
            refine lv_aload_n hx hb d_MD_door_47 rfl (lv_at hl 0 rfl) ?_
            refine gf_MD_170 C hW.1 d_MD_door_48 ?_
            refine lv_bipush (v := 40) hx hb d_MD_door_51 (by decide) ?_
            refine lv_icmp_ge (tgt := 60) hx hb d_MD_door_53 (by decide) (fun c105 => ?_) (fun c105 => ?_)
            · rw [if_pos c105] at h
              refine lv_iconst (v := 0) hx hb d_MD_door_60 (by decide) ?_
              have k61 : ∀ (x1 : Int32) (x2 : Int32) (x3 : Int32) (x4 : Int32) (s0 : Int32) (s1 : Int32) (s2 : Int32) (σ : Sg) (h : C_MD_door_61 x1 x2 x3 x4 s0 s1 s2 σ = some out) (H : Heap) (locs : List Loc) (hW : WR G ad cI cZ s σ H locs) (ls : Array Slot) (hl : lv_has ls 5 [(0, .ref (ad 0)), (1, .int x1), (2, .int x2), (3, .int x3), (4, .int x4)]), W p l e (headSpec wl_MD_door ({ frames := 1, cells := 0, slots := 0, locals := 23 } : Room)).room s m (([.ref (ad 0), .int a1, .int a2, .int a3, .int a4] : List Value).toArray) below meth c H locs 0 0 (MQ below (QRi G ad cI cZ out) (([.ref (ad 0), .int a1, .int a2, .int a3, .int a4] : List Value).toArray) s 0 0 (AR ad)) (F0 m 61 ls [.int s0, .int s1, .int s2, .ref (ad 0)]) := by
                intro x1 x2 x3 x4 s0 s1 s2 σ h H locs hW ls hl
                unfold C_MD_door_61 at h
                obtain ⟨r113, g_r113, h⟩ := ob_some h
                refine cl_MD_102 (rest := []) C hD (hml.trans hl.1.symm) hW g_r113 ⟨Nat.le_of_ble_eq_true rfl, Nat.le_of_ble_eq_true rfl⟩ (Nat.le_of_ble_eq_true rfl) d_MD_door_61 ⟨Nat.zero_le _, Nat.zero_le _⟩ (fun H locs hW => ?_)
                refine lv_if_ne (tgt := 69) hx hb d_MD_door_64 (by decide) (fun c114 => ?_) (fun c114 => ?_)
                · rw [if_neg c114] at h
                  refine lv_aload_n hx hb d_MD_door_69 rfl (lv_at hl 0 rfl) ?_
                  refine gf_MD_44 C hW.1 d_MD_door_70 ?_
                  refine lv_aload_n hx hb d_MD_door_73 rfl (lv_at hl 0 rfl) ?_
                  refine gf_MD_170 C hW.1 d_MD_door_74 ?_
                  refine lv_iload_n hx hb d_MD_door_77 rfl (lv_at hl 1 rfl) ?_
                  obtain ⟨hin, h⟩ := gd_some h
                  refine asR_12 C hD hW hin d_MD_door_78 (fun H locs hW => ?_)
                  obtain ⟨σ115, e_σ115, h⟩ := lt1_some h
                  rw [← e_σ115] at hW
                  refine lv_aload_n hx hb d_MD_door_79 rfl (lv_at hl 0 rfl) ?_
                  refine gf_MD_47 C hW.1 d_MD_door_80 ?_
                  refine lv_aload_n hx hb d_MD_door_83 rfl (lv_at hl 0 rfl) ?_
                  refine gf_MD_170 C hW.1 d_MD_door_84 ?_
                  refine lv_iload_n hx hb d_MD_door_87 rfl (lv_at hl 2 rfl) ?_
                  obtain ⟨hin, h⟩ := gd_some h
                  refine asR_13 C hD hW hin d_MD_door_88 (fun H locs hW => ?_)
                  obtain ⟨σ116, e_σ116, h⟩ := lt1_some h
                  rw [← e_σ116] at hW
                  refine lv_aload_n hx hb d_MD_door_89 rfl (lv_at hl 0 rfl) ?_
                  refine gf_MD_50 C hW.1 d_MD_door_90 ?_
                  refine lv_aload_n hx hb d_MD_door_93 rfl (lv_at hl 0 rfl) ?_
                  refine gf_MD_170 C hW.1 d_MD_door_94 ?_
                  refine lv_iload_n hx hb d_MD_door_97 rfl (lv_at hl 3 rfl) ?_
                  obtain ⟨hin, h⟩ := gd_some h
                  refine asR_14 C hD hW hin d_MD_door_98 (fun H locs hW => ?_)
                  obtain ⟨σ117, e_σ117, h⟩ := lt1_some h
                  rw [← e_σ117] at hW
                  refine lv_aload_n hx hb d_MD_door_99 rfl (lv_at hl 0 rfl) ?_
                  refine gf_MD_53 C hW.1 d_MD_door_100 ?_
                  refine lv_aload_n hx hb d_MD_door_103 rfl (lv_at hl 0 rfl) ?_
                  refine gf_MD_170 C hW.1 d_MD_door_104 ?_
                  refine lv_iload hx hb d_MD_door_107 (lv_at hl 4 rfl) ?_
                  obtain ⟨hin, h⟩ := gd_some h
                  refine asR_15 C hD hW hin d_MD_door_109 (fun H locs hW => ?_)
                  obtain ⟨σ118, e_σ118, h⟩ := lt1_some h
                  rw [← e_σ118] at hW
                  refine lv_aload_n hx hb d_MD_door_110 rfl (lv_at hl 0 rfl) ?_
                  refine lv_dup hx hb d_MD_door_111 rfl ?_
                  refine gf_MD_170 C hW.1 d_MD_door_112 ?_
                  refine lv_iconst (v := 1) hx hb d_MD_door_115 (by decide) ?_
                  refine lv_iadd hx hb d_MD_door_116 ?_
                  refine pf_MD_170 C hD hW d_MD_door_117 (fun H locs hW => ?_)
                  obtain ⟨σ119, e_σ119, h⟩ := lt1_some h
                  rw [← e_σ119] at hW
                  refine lv_aload_n hx hb d_MD_door_120 rfl (lv_at hl 0 rfl) ?_
                  refine gf_MD_170 C hW.1 d_MD_door_121 ?_
                  refine lv_iconst (v := 1) hx hb d_MD_door_124 (by decide) ?_
                  refine lv_isub hx hb d_MD_door_125 ?_
                  exact W.iret hx hb hr (fun t ht _ => qr_i h ht hW) hW.2.2.2 d_MD_door_126
                · rw [if_pos c114] at h
                  refine lv_iconst (v := 0) hx hb d_MD_door_67 (by decide) ?_
                  exact W.iret hx hb hr (fun t ht _ => qr_i h ht hW) hW.2.2.2 d_MD_door_68
              exact k61 x1 x2 x3 x4 0 0 s0 σ h _ _ hW _ (lv_sub hl [0, 1, 2, 3, 4] rfl)
            · rw [if_neg c105] at h
              refine lv_iconst (v := 1) hx hb d_MD_door_56 (by decide) ?_
              refine lv_goto (tgt := 61) hx hb d_MD_door_57 (by decide) ?_
              have k61 : ∀ (x1 : Int32) (x2 : Int32) (x3 : Int32) (x4 : Int32) (s0 : Int32) (s1 : Int32) (s2 : Int32) (σ : Sg) (h : C_MD_door_61 x1 x2 x3 x4 s0 s1 s2 σ = some out) (H : Heap) (locs : List Loc) (hW : WR G ad cI cZ s σ H locs) (ls : Array Slot) (hl : lv_has ls 5 [(0, .ref (ad 0)), (1, .int x1), (2, .int x2), (3, .int x3), (4, .int x4)]), W p l e (headSpec wl_MD_door ({ frames := 1, cells := 0, slots := 0, locals := 23 } : Room)).room s m (([.ref (ad 0), .int a1, .int a2, .int a3, .int a4] : List Value).toArray) below meth c H locs 0 0 (MQ below (QRi G ad cI cZ out) (([.ref (ad 0), .int a1, .int a2, .int a3, .int a4] : List Value).toArray) s 0 0 (AR ad)) (F0 m 61 ls [.int s0, .int s1, .int s2, .ref (ad 0)]) := by
                intro x1 x2 x3 x4 s0 s1 s2 σ h H locs hW ls hl
                unfold C_MD_door_61 at h
                obtain ⟨r106, g_r106, h⟩ := ob_some h
                refine cl_MD_102 (rest := []) C hD (hml.trans hl.1.symm) hW g_r106 ⟨Nat.le_of_ble_eq_true rfl, Nat.le_of_ble_eq_true rfl⟩ (Nat.le_of_ble_eq_true rfl) d_MD_door_61 ⟨Nat.zero_le _, Nat.zero_le _⟩ (fun H locs hW => ?_)
                refine lv_if_ne (tgt := 69) hx hb d_MD_door_64 (by decide) (fun c107 => ?_) (fun c107 => ?_)
                · rw [if_neg c107] at h
                  refine lv_aload_n hx hb d_MD_door_69 rfl (lv_at hl 0 rfl) ?_
                  refine gf_MD_44 C hW.1 d_MD_door_70 ?_
                  refine lv_aload_n hx hb d_MD_door_73 rfl (lv_at hl 0 rfl) ?_
                  refine gf_MD_170 C hW.1 d_MD_door_74 ?_
                  refine lv_iload_n hx hb d_MD_door_77 rfl (lv_at hl 1 rfl) ?_
                  obtain ⟨hin, h⟩ := gd_some h
                  refine asR_12 C hD hW hin d_MD_door_78 (fun H locs hW => ?_)
                  obtain ⟨σ108, e_σ108, h⟩ := lt1_some h
                  rw [← e_σ108] at hW
                  refine lv_aload_n hx hb d_MD_door_79 rfl (lv_at hl 0 rfl) ?_
                  refine gf_MD_47 C hW.1 d_MD_door_80 ?_
                  refine lv_aload_n hx hb d_MD_door_83 rfl (lv_at hl 0 rfl) ?_
                  refine gf_MD_170 C hW.1 d_MD_door_84 ?_
                  refine lv_iload_n hx hb d_MD_door_87 rfl (lv_at hl 2 rfl) ?_
                  obtain ⟨hin, h⟩ := gd_some h
                  refine asR_13 C hD hW hin d_MD_door_88 (fun H locs hW => ?_)
                  obtain ⟨σ109, e_σ109, h⟩ := lt1_some h
                  rw [← e_σ109] at hW
                  refine lv_aload_n hx hb d_MD_door_89 rfl (lv_at hl 0 rfl) ?_
                  refine gf_MD_50 C hW.1 d_MD_door_90 ?_
                  refine lv_aload_n hx hb d_MD_door_93 rfl (lv_at hl 0 rfl) ?_
                  refine gf_MD_170 C hW.1 d_MD_door_94 ?_
                  refine lv_iload_n hx hb d_MD_door_97 rfl (lv_at hl 3 rfl) ?_
                  obtain ⟨hin, h⟩ := gd_some h
                  refine asR_14 C hD hW hin d_MD_door_98 (fun H locs hW => ?_)
                  obtain ⟨σ110, e_σ110, h⟩ := lt1_some h
                  rw [← e_σ110] at hW
                  refine lv_aload_n hx hb d_MD_door_99 rfl (lv_at hl 0 rfl) ?_
                  refine gf_MD_53 C hW.1 d_MD_door_100 ?_
                  refine lv_aload_n hx hb d_MD_door_103 rfl (lv_at hl 0 rfl) ?_
                  refine gf_MD_170 C hW.1 d_MD_door_104 ?_
                  refine lv_iload hx hb d_MD_door_107 (lv_at hl 4 rfl) ?_
                  obtain ⟨hin, h⟩ := gd_some h
                  refine asR_15 C hD hW hin d_MD_door_109 (fun H locs hW => ?_)
                  obtain ⟨σ111, e_σ111, h⟩ := lt1_some h
                  rw [← e_σ111] at hW
                  refine lv_aload_n hx hb d_MD_door_110 rfl (lv_at hl 0 rfl) ?_
                  refine lv_dup hx hb d_MD_door_111 rfl ?_
                  refine gf_MD_170 C hW.1 d_MD_door_112 ?_
                  refine lv_iconst (v := 1) hx hb d_MD_door_115 (by decide) ?_
                  refine lv_iadd hx hb d_MD_door_116 ?_
                  refine pf_MD_170 C hD hW d_MD_door_117 (fun H locs hW => ?_)
                  obtain ⟨σ112, e_σ112, h⟩ := lt1_some h
                  rw [← e_σ112] at hW
                  refine lv_aload_n hx hb d_MD_door_120 rfl (lv_at hl 0 rfl) ?_
                  refine gf_MD_170 C hW.1 d_MD_door_121 ?_
                  refine lv_iconst (v := 1) hx hb d_MD_door_124 (by decide) ?_
                  refine lv_isub hx hb d_MD_door_125 ?_
                  exact W.iret hx hb hr (fun t ht _ => qr_i h ht hW) hW.2.2.2 d_MD_door_126
                · rw [if_pos c107] at h
                  refine lv_iconst (v := 0) hx hb d_MD_door_67 (by decide) ?_
                  exact W.iret hx hb hr (fun t ht _ => qr_i h ht hW) hW.2.2.2 d_MD_door_68
              exact k61 x1 x2 x3 x4 1 0 s0 σ h _ _ hW _ (lv_sub hl [0, 1, 2, 3, 4] rfl)
          · rw [if_neg c72] at h
            refine lv_iload hx hb d_MD_door_34 (lv_at hl 4 rfl) ?_
            obtain ⟨r73, g_r73, h⟩ := ob_some h
            refine cl_MD_106 (rest := [.int s0, .ref (ad 0)]) C (hml.trans hl.1.symm) hW.1 g_r73 ⟨Nat.le_of_ble_eq_true rfl, Nat.le_of_ble_eq_true rfl⟩ (Nat.le_of_ble_eq_true rfl) d_MD_door_36 ⟨Nat.zero_le _, Nat.zero_le _⟩ ?_
            refine lv_if_eq (tgt := 46) hx hb d_MD_door_39 (by decide) (fun c74 => ?_) (fun c74 => ?_)
            · rw [if_pos c74] at h
              refine lv_iconst (v := 0) hx hb d_MD_door_46 (by decide) ?_
              refine lv_aload_n hx hb d_MD_door_47 rfl (lv_at hl 0 rfl) ?_
              refine gf_MD_170 C hW.1 d_MD_door_48 ?_
              refine lv_bipush (v := 40) hx hb d_MD_door_51 (by decide) ?_
              refine lv_icmp_ge (tgt := 60) hx hb d_MD_door_53 (by decide) (fun c90 => ?_) (fun c90 => ?_)
              · rw [if_pos c90] at h
                refine lv_iconst (v := 0) hx hb d_MD_door_60 (by decide) ?_
                have k61 : ∀ (x1 : Int32) (x2 : Int32) (x3 : Int32) (x4 : Int32) (s0 : Int32) (s1 : Int32) (s2 : Int32) (σ : Sg) (h : C_MD_door_61 x1 x2 x3 x4 s0 s1 s2 σ = some out) (H : Heap) (locs : List Loc) (hW : WR G ad cI cZ s σ H locs) (ls : Array Slot) (hl : lv_has ls 5 [(0, .ref (ad 0)), (1, .int x1), (2, .int x2), (3, .int x3), (4, .int x4)]), W p l e (headSpec wl_MD_door ({ frames := 1, cells := 0, slots := 0, locals := 23 } : Room)).room s m (([.ref (ad 0), .int a1, .int a2, .int a3, .int a4] : List Value).toArray) below meth c H locs 0 0 (MQ below (QRi G ad cI cZ out) (([.ref (ad 0), .int a1, .int a2, .int a3, .int a4] : List Value).toArray) s 0 0 (AR ad)) (F0 m 61 ls [.int s0, .int s1, .int s2, .ref (ad 0)]) := by
                  intro x1 x2 x3 x4 s0 s1 s2 σ h H locs hW ls hl
                  unfold C_MD_door_61 at h
                  obtain ⟨r98, g_r98, h⟩ := ob_some h
                  refine cl_MD_102 (rest := []) C hD (hml.trans hl.1.symm) hW g_r98 ⟨Nat.le_of_ble_eq_true rfl, Nat.le_of_ble_eq_true rfl⟩ (Nat.le_of_ble_eq_true rfl) d_MD_door_61 ⟨Nat.zero_le _, Nat.zero_le _⟩ (fun H locs hW => ?_)
                  refine lv_if_ne (tgt := 69) hx hb d_MD_door_64 (by decide) (fun c99 => ?_) (fun c99 => ?_)
                  · rw [if_neg c99] at h
                    refine lv_aload_n hx hb d_MD_door_69 rfl (lv_at hl 0 rfl) ?_
                    refine gf_MD_44 C hW.1 d_MD_door_70 ?_
                    refine lv_aload_n hx hb d_MD_door_73 rfl (lv_at hl 0 rfl) ?_
                    refine gf_MD_170 C hW.1 d_MD_door_74 ?_
                    refine lv_iload_n hx hb d_MD_door_77 rfl (lv_at hl 1 rfl) ?_
                    obtain ⟨hin, h⟩ := gd_some h
                    refine asR_12 C hD hW hin d_MD_door_78 (fun H locs hW => ?_)
                    obtain ⟨σ100, e_σ100, h⟩ := lt1_some h
                    rw [← e_σ100] at hW
                    refine lv_aload_n hx hb d_MD_door_79 rfl (lv_at hl 0 rfl) ?_
                    refine gf_MD_47 C hW.1 d_MD_door_80 ?_
                    refine lv_aload_n hx hb d_MD_door_83 rfl (lv_at hl 0 rfl) ?_
                    refine gf_MD_170 C hW.1 d_MD_door_84 ?_
                    refine lv_iload_n hx hb d_MD_door_87 rfl (lv_at hl 2 rfl) ?_
                    obtain ⟨hin, h⟩ := gd_some h
                    refine asR_13 C hD hW hin d_MD_door_88 (fun H locs hW => ?_)
                    obtain ⟨σ101, e_σ101, h⟩ := lt1_some h
                    rw [← e_σ101] at hW
                    refine lv_aload_n hx hb d_MD_door_89 rfl (lv_at hl 0 rfl) ?_
                    refine gf_MD_50 C hW.1 d_MD_door_90 ?_
                    refine lv_aload_n hx hb d_MD_door_93 rfl (lv_at hl 0 rfl) ?_
                    refine gf_MD_170 C hW.1 d_MD_door_94 ?_
                    refine lv_iload_n hx hb d_MD_door_97 rfl (lv_at hl 3 rfl) ?_
                    obtain ⟨hin, h⟩ := gd_some h
                    refine asR_14 C hD hW hin d_MD_door_98 (fun H locs hW => ?_)
                    obtain ⟨σ102, e_σ102, h⟩ := lt1_some h
                    rw [← e_σ102] at hW
                    refine lv_aload_n hx hb d_MD_door_99 rfl (lv_at hl 0 rfl) ?_
                    refine gf_MD_53 C hW.1 d_MD_door_100 ?_
                    refine lv_aload_n hx hb d_MD_door_103 rfl (lv_at hl 0 rfl) ?_
                    refine gf_MD_170 C hW.1 d_MD_door_104 ?_
                    refine lv_iload hx hb d_MD_door_107 (lv_at hl 4 rfl) ?_
                    obtain ⟨hin, h⟩ := gd_some h
                    refine asR_15 C hD hW hin d_MD_door_109 (fun H locs hW => ?_)
                    obtain ⟨σ103, e_σ103, h⟩ := lt1_some h
                    rw [← e_σ103] at hW
                    refine lv_aload_n hx hb d_MD_door_110 rfl (lv_at hl 0 rfl) ?_
                    refine lv_dup hx hb d_MD_door_111 rfl ?_
                    refine gf_MD_170 C hW.1 d_MD_door_112 ?_
                    refine lv_iconst (v := 1) hx hb d_MD_door_115 (by decide) ?_
                    refine lv_iadd hx hb d_MD_door_116 ?_
                    refine pf_MD_170 C hD hW d_MD_door_117 (fun H locs hW => ?_)
                    obtain ⟨σ104, e_σ104, h⟩ := lt1_some h
                    rw [← e_σ104] at hW
                    refine lv_aload_n hx hb d_MD_door_120 rfl (lv_at hl 0 rfl) ?_
                    refine gf_MD_170 C hW.1 d_MD_door_121 ?_
                    refine lv_iconst (v := 1) hx hb d_MD_door_124 (by decide) ?_
                    refine lv_isub hx hb d_MD_door_125 ?_
                    exact W.iret hx hb hr (fun t ht _ => qr_i h ht hW) hW.2.2.2 d_MD_door_126
                  · rw [if_pos c99] at h
                    refine lv_iconst (v := 0) hx hb d_MD_door_67 (by decide) ?_
                    exact W.iret hx hb hr (fun t ht _ => qr_i h ht hW) hW.2.2.2 d_MD_door_68
                exact k61 x1 x2 x3 x4 0 0 s0 σ h _ _ hW _ (lv_sub hl [0, 1, 2, 3, 4] rfl)
              · rw [if_neg c90] at h
                refine lv_iconst (v := 1) hx hb d_MD_door_56 (by decide) ?_
                refine lv_goto (tgt := 61) hx hb d_MD_door_57 (by decide) ?_
                have k61 : ∀ (x1 : Int32) (x2 : Int32) (x3 : Int32) (x4 : Int32) (s0 : Int32) (s1 : Int32) (s2 : Int32) (σ : Sg) (h : C_MD_door_61 x1 x2 x3 x4 s0 s1 s2 σ = some out) (H : Heap) (locs : List Loc) (hW : WR G ad cI cZ s σ H locs) (ls : Array Slot) (hl : lv_has ls 5 [(0, .ref (ad 0)), (1, .int x1), (2, .int x2), (3, .int x3), (4, .int x4)]), W p l e (headSpec wl_MD_door ({ frames := 1, cells := 0, slots := 0, locals := 23 } : Room)).room s m (([.ref (ad 0), .int a1, .int a2, .int a3, .int a4] : List Value).toArray) below meth c H locs 0 0 (MQ below (QRi G ad cI cZ out) (([.ref (ad 0), .int a1, .int a2, .int a3, .int a4] : List Value).toArray) s 0 0 (AR ad)) (F0 m 61 ls [.int s0, .int s1, .int s2, .ref (ad 0)]) := by
                  intro x1 x2 x3 x4 s0 s1 s2 σ h H locs hW ls hl
                  unfold C_MD_door_61 at h
                  obtain ⟨r91, g_r91, h⟩ := ob_some h
                  refine cl_MD_102 (rest := []) C hD (hml.trans hl.1.symm) hW g_r91 ⟨Nat.le_of_ble_eq_true rfl, Nat.le_of_ble_eq_true rfl⟩ (Nat.le_of_ble_eq_true rfl) d_MD_door_61 ⟨Nat.zero_le _, Nat.zero_le _⟩ (fun H locs hW => ?_)
                  refine lv_if_ne (tgt := 69) hx hb d_MD_door_64 (by decide) (fun c92 => ?_) (fun c92 => ?_)
                  · rw [if_neg c92] at h
                    refine lv_aload_n hx hb d_MD_door_69 rfl (lv_at hl 0 rfl) ?_
                    refine gf_MD_44 C hW.1 d_MD_door_70 ?_
                    refine lv_aload_n hx hb d_MD_door_73 rfl (lv_at hl 0 rfl) ?_
                    refine gf_MD_170 C hW.1 d_MD_door_74 ?_
                    refine lv_iload_n hx hb d_MD_door_77 rfl (lv_at hl 1 rfl) ?_
                    obtain ⟨hin, h⟩ := gd_some h
                    refine asR_12 C hD hW hin d_MD_door_78 (fun H locs hW => ?_)
                    obtain ⟨σ93, e_σ93, h⟩ := lt1_some h
                    rw [← e_σ93] at hW
                    refine lv_aload_n hx hb d_MD_door_79 rfl (lv_at hl 0 rfl) ?_
                    refine gf_MD_47 C hW.1 d_MD_door_80 ?_
                    refine lv_aload_n hx hb d_MD_door_83 rfl (lv_at hl 0 rfl) ?_
                    refine gf_MD_170 C hW.1 d_MD_door_84 ?_
                    refine lv_iload_n hx hb d_MD_door_87 rfl (lv_at hl 2 rfl) ?_
                    obtain ⟨hin, h⟩ := gd_some h
                    refine asR_13 C hD hW hin d_MD_door_88 (fun H locs hW => ?_)
                    obtain ⟨σ94, e_σ94, h⟩ := lt1_some h
                    rw [← e_σ94] at hW
                    refine lv_aload_n hx hb d_MD_door_89 rfl (lv_at hl 0 rfl) ?_
                    refine gf_MD_50 C hW.1 d_MD_door_90 ?_
                    refine lv_aload_n hx hb d_MD_door_93 rfl (lv_at hl 0 rfl) ?_
                    refine gf_MD_170 C hW.1 d_MD_door_94 ?_
                    refine lv_iload_n hx hb d_MD_door_97 rfl (lv_at hl 3 rfl) ?_
                    obtain ⟨hin, h⟩ := gd_some h
                    refine asR_14 C hD hW hin d_MD_door_98 (fun H locs hW => ?_)
                    obtain ⟨σ95, e_σ95, h⟩ := lt1_some h
                    rw [← e_σ95] at hW
                    refine lv_aload_n hx hb d_MD_door_99 rfl (lv_at hl 0 rfl) ?_
                    refine gf_MD_53 C hW.1 d_MD_door_100 ?_
                    refine lv_aload_n hx hb d_MD_door_103 rfl (lv_at hl 0 rfl) ?_
                    refine gf_MD_170 C hW.1 d_MD_door_104 ?_
                    refine lv_iload hx hb d_MD_door_107 (lv_at hl 4 rfl) ?_
                    obtain ⟨hin, h⟩ := gd_some h
                    refine asR_15 C hD hW hin d_MD_door_109 (fun H locs hW => ?_)
                    obtain ⟨σ96, e_σ96, h⟩ := lt1_some h
                    rw [← e_σ96] at hW
                    refine lv_aload_n hx hb d_MD_door_110 rfl (lv_at hl 0 rfl) ?_
                    refine lv_dup hx hb d_MD_door_111 rfl ?_
                    refine gf_MD_170 C hW.1 d_MD_door_112 ?_
                    refine lv_iconst (v := 1) hx hb d_MD_door_115 (by decide) ?_
                    refine lv_iadd hx hb d_MD_door_116 ?_
                    refine pf_MD_170 C hD hW d_MD_door_117 (fun H locs hW => ?_)
                    obtain ⟨σ97, e_σ97, h⟩ := lt1_some h
                    rw [← e_σ97] at hW
                    refine lv_aload_n hx hb d_MD_door_120 rfl (lv_at hl 0 rfl) ?_
                    refine gf_MD_170 C hW.1 d_MD_door_121 ?_
                    refine lv_iconst (v := 1) hx hb d_MD_door_124 (by decide) ?_
                    refine lv_isub hx hb d_MD_door_125 ?_
                    exact W.iret hx hb hr (fun t ht _ => qr_i h ht hW) hW.2.2.2 d_MD_door_126
                  · rw [if_pos c92] at h
                    refine lv_iconst (v := 0) hx hb d_MD_door_67 (by decide) ?_
                    exact W.iret hx hb hr (fun t ht _ => qr_i h ht hW) hW.2.2.2 d_MD_door_68
                exact k61 x1 x2 x3 x4 1 0 s0 σ h _ _ hW _ (lv_sub hl [0, 1, 2, 3, 4] rfl)
            · rw [if_neg c74] at h
              refine lv_iconst (v := 1) hx hb d_MD_door_42 (by decide) ?_
              refine lv_goto (tgt := 47) hx hb d_MD_door_43 (by decide) ?_
              refine lv_aload_n hx hb d_MD_door_47 rfl (lv_at hl 0 rfl) ?_
              refine gf_MD_170 C hW.1 d_MD_door_48 ?_
              refine lv_bipush (v := 40) hx hb d_MD_door_51 (by decide) ?_
              refine lv_icmp_ge (tgt := 60) hx hb d_MD_door_53 (by decide) (fun c75 => ?_) (fun c75 => ?_)
              · rw [if_pos c75] at h
                refine lv_iconst (v := 0) hx hb d_MD_door_60 (by decide) ?_
                have k61 : ∀ (x1 : Int32) (x2 : Int32) (x3 : Int32) (x4 : Int32) (s0 : Int32) (s1 : Int32) (s2 : Int32) (σ : Sg) (h : C_MD_door_61 x1 x2 x3 x4 s0 s1 s2 σ = some out) (H : Heap) (locs : List Loc) (hW : WR G ad cI cZ s σ H locs) (ls : Array Slot) (hl : lv_has ls 5 [(0, .ref (ad 0)), (1, .int x1), (2, .int x2), (3, .int x3), (4, .int x4)]), W p l e (headSpec wl_MD_door ({ frames := 1, cells := 0, slots := 0, locals := 23 } : Room)).room s m (([.ref (ad 0), .int a1, .int a2, .int a3, .int a4] : List Value).toArray) below meth c H locs 0 0 (MQ below (QRi G ad cI cZ out) (([.ref (ad 0), .int a1, .int a2, .int a3, .int a4] : List Value).toArray) s 0 0 (AR ad)) (F0 m 61 ls [.int s0, .int s1, .int s2, .ref (ad 0)]) := by
                  intro x1 x2 x3 x4 s0 s1 s2 σ h H locs hW ls hl
                  unfold C_MD_door_61 at h
                  obtain ⟨r83, g_r83, h⟩ := ob_some h
                  refine cl_MD_102 (rest := []) C hD (hml.trans hl.1.symm) hW g_r83 ⟨Nat.le_of_ble_eq_true rfl, Nat.le_of_ble_eq_true rfl⟩ (Nat.le_of_ble_eq_true rfl) d_MD_door_61 ⟨Nat.zero_le _, Nat.zero_le _⟩ (fun H locs hW => ?_)
                  refine lv_if_ne (tgt := 69) hx hb d_MD_door_64 (by decide) (fun c84 => ?_) (fun c84 => ?_)
                  · rw [if_neg c84] at h
                    refine lv_aload_n hx hb d_MD_door_69 rfl (lv_at hl 0 rfl) ?_
                    refine gf_MD_44 C hW.1 d_MD_door_70 ?_
                    refine lv_aload_n hx hb d_MD_door_73 rfl (lv_at hl 0 rfl) ?_
                    refine gf_MD_170 C hW.1 d_MD_door_74 ?_
                    refine lv_iload_n hx hb d_MD_door_77 rfl (lv_at hl 1 rfl) ?_
                    obtain ⟨hin, h⟩ := gd_some h
                    refine asR_12 C hD hW hin d_MD_door_78 (fun H locs hW => ?_)
                    obtain ⟨σ85, e_σ85, h⟩ := lt1_some h
                    rw [← e_σ85] at hW
                    refine lv_aload_n hx hb d_MD_door_79 rfl (lv_at hl 0 rfl) ?_
                    refine gf_MD_47 C hW.1 d_MD_door_80 ?_
                    refine lv_aload_n hx hb d_MD_door_83 rfl (lv_at hl 0 rfl) ?_
                    refine gf_MD_170 C hW.1 d_MD_door_84 ?_
                    refine lv_iload_n hx hb d_MD_door_87 rfl (lv_at hl 2 rfl) ?_
                    obtain ⟨hin, h⟩ := gd_some h
                    refine asR_13 C hD hW hin d_MD_door_88 (fun H locs hW => ?_)
                    obtain ⟨σ86, e_σ86, h⟩ := lt1_some h
                    rw [← e_σ86] at hW
                    refine lv_aload_n hx hb d_MD_door_89 rfl (lv_at hl 0 rfl) ?_
                    refine gf_MD_50 C hW.1 d_MD_door_90 ?_
                    refine lv_aload_n hx hb d_MD_door_93 rfl (lv_at hl 0 rfl) ?_
                    refine gf_MD_170 C hW.1 d_MD_door_94 ?_
                    refine lv_iload_n hx hb d_MD_door_97 rfl (lv_at hl 3 rfl) ?_
                    obtain ⟨hin, h⟩ := gd_some h
                    refine asR_14 C hD hW hin d_MD_door_98 (fun H locs hW => ?_)
                    obtain ⟨σ87, e_σ87, h⟩ := lt1_some h
                    rw [← e_σ87] at hW
                    refine lv_aload_n hx hb d_MD_door_99 rfl (lv_at hl 0 rfl) ?_
                    refine gf_MD_53 C hW.1 d_MD_door_100 ?_
                    refine lv_aload_n hx hb d_MD_door_103 rfl (lv_at hl 0 rfl) ?_
                    refine gf_MD_170 C hW.1 d_MD_door_104 ?_
                    refine lv_iload hx hb d_MD_door_107 (lv_at hl 4 rfl) ?_
                    obtain ⟨hin, h⟩ := gd_some h
                    refine asR_15 C hD hW hin d_MD_door_109 (fun H locs hW => ?_)
                    obtain ⟨σ88, e_σ88, h⟩ := lt1_some h
                    rw [← e_σ88] at hW
                    refine lv_aload_n hx hb d_MD_door_110 rfl (lv_at hl 0 rfl) ?_
                    refine lv_dup hx hb d_MD_door_111 rfl ?_
                    refine gf_MD_170 C hW.1 d_MD_door_112 ?_
                    refine lv_iconst (v := 1) hx hb d_MD_door_115 (by decide) ?_
                    refine lv_iadd hx hb d_MD_door_116 ?_
                    refine pf_MD_170 C hD hW d_MD_door_117 (fun H locs hW => ?_)
                    obtain ⟨σ89, e_σ89, h⟩ := lt1_some h
                    rw [← e_σ89] at hW
                    refine lv_aload_n hx hb d_MD_door_120 rfl (lv_at hl 0 rfl) ?_
                    refine gf_MD_170 C hW.1 d_MD_door_121 ?_
                    refine lv_iconst (v := 1) hx hb d_MD_door_124 (by decide) ?_
                    refine lv_isub hx hb d_MD_door_125 ?_
                    exact W.iret hx hb hr (fun t ht _ => qr_i h ht hW) hW.2.2.2 d_MD_door_126
                  · rw [if_pos c84] at h
                    refine lv_iconst (v := 0) hx hb d_MD_door_67 (by decide) ?_
                    exact W.iret hx hb hr (fun t ht _ => qr_i h ht hW) hW.2.2.2 d_MD_door_68
                exact k61 x1 x2 x3 x4 0 1 s0 σ h _ _ hW _ (lv_sub hl [0, 1, 2, 3, 4] rfl)
              · rw [if_neg c75] at h
                refine lv_iconst (v := 1) hx hb d_MD_door_56 (by decide) ?_
                refine lv_goto (tgt := 61) hx hb d_MD_door_57 (by decide) ?_
                have k61 : ∀ (x1 : Int32) (x2 : Int32) (x3 : Int32) (x4 : Int32) (s0 : Int32) (s1 : Int32) (s2 : Int32) (σ : Sg) (h : C_MD_door_61 x1 x2 x3 x4 s0 s1 s2 σ = some out) (H : Heap) (locs : List Loc) (hW : WR G ad cI cZ s σ H locs) (ls : Array Slot) (hl : lv_has ls 5 [(0, .ref (ad 0)), (1, .int x1), (2, .int x2), (3, .int x3), (4, .int x4)]), W p l e (headSpec wl_MD_door ({ frames := 1, cells := 0, slots := 0, locals := 23 } : Room)).room s m (([.ref (ad 0), .int a1, .int a2, .int a3, .int a4] : List Value).toArray) below meth c H locs 0 0 (MQ below (QRi G ad cI cZ out) (([.ref (ad 0), .int a1, .int a2, .int a3, .int a4] : List Value).toArray) s 0 0 (AR ad)) (F0 m 61 ls [.int s0, .int s1, .int s2, .ref (ad 0)]) := by
                  intro x1 x2 x3 x4 s0 s1 s2 σ h H locs hW ls hl
                  unfold C_MD_door_61 at h
                  obtain ⟨r76, g_r76, h⟩ := ob_some h
                  refine cl_MD_102 (rest := []) C hD (hml.trans hl.1.symm) hW g_r76 ⟨Nat.le_of_ble_eq_true rfl, Nat.le_of_ble_eq_true rfl⟩ (Nat.le_of_ble_eq_true rfl) d_MD_door_61 ⟨Nat.zero_le _, Nat.zero_le _⟩ (fun H locs hW => ?_)
                  refine lv_if_ne (tgt := 69) hx hb d_MD_door_64 (by decide) (fun c77 => ?_) (fun c77 => ?_)
                  · rw [if_neg c77] at h
                    refine lv_aload_n hx hb d_MD_door_69 rfl (lv_at hl 0 rfl) ?_
                    refine gf_MD_44 C hW.1 d_MD_door_70 ?_
                    refine lv_aload_n hx hb d_MD_door_73 rfl (lv_at hl 0 rfl) ?_
                    refine gf_MD_170 C hW.1 d_MD_door_74 ?_
                    refine lv_iload_n hx hb d_MD_door_77 rfl (lv_at hl 1 rfl) ?_
                    obtain ⟨hin, h⟩ := gd_some h
                    refine asR_12 C hD hW hin d_MD_door_78 (fun H locs hW => ?_)
                    obtain ⟨σ78, e_σ78, h⟩ := lt1_some h
                    rw [← e_σ78] at hW
                    refine lv_aload_n hx hb d_MD_door_79 rfl (lv_at hl 0 rfl) ?_
                    refine gf_MD_47 C hW.1 d_MD_door_80 ?_
                    refine lv_aload_n hx hb d_MD_door_83 rfl (lv_at hl 0 rfl) ?_
                    refine gf_MD_170 C hW.1 d_MD_door_84 ?_
                    refine lv_iload_n hx hb d_MD_door_87 rfl (lv_at hl 2 rfl) ?_
                    obtain ⟨hin, h⟩ := gd_some h
                    refine asR_13 C hD hW hin d_MD_door_88 (fun H locs hW => ?_)
                    obtain ⟨σ79, e_σ79, h⟩ := lt1_some h
                    rw [← e_σ79] at hW
                    refine lv_aload_n hx hb d_MD_door_89 rfl (lv_at hl 0 rfl) ?_
                    refine gf_MD_50 C hW.1 d_MD_door_90 ?_
                    refine lv_aload_n hx hb d_MD_door_93 rfl (lv_at hl 0 rfl) ?_
                    refine gf_MD_170 C hW.1 d_MD_door_94 ?_
                    refine lv_iload_n hx hb d_MD_door_97 rfl (lv_at hl 3 rfl) ?_
                    obtain ⟨hin, h⟩ := gd_some h
                    refine asR_14 C hD hW hin d_MD_door_98 (fun H locs hW => ?_)
                    obtain ⟨σ80, e_σ80, h⟩ := lt1_some h
                    rw [← e_σ80] at hW
                    refine lv_aload_n hx hb d_MD_door_99 rfl (lv_at hl 0 rfl) ?_
                    refine gf_MD_53 C hW.1 d_MD_door_100 ?_
                    refine lv_aload_n hx hb d_MD_door_103 rfl (lv_at hl 0 rfl) ?_
                    refine gf_MD_170 C hW.1 d_MD_door_104 ?_
                    refine lv_iload hx hb d_MD_door_107 (lv_at hl 4 rfl) ?_
                    obtain ⟨hin, h⟩ := gd_some h
                    refine asR_15 C hD hW hin d_MD_door_109 (fun H locs hW => ?_)
                    obtain ⟨σ81, e_σ81, h⟩ := lt1_some h
                    rw [← e_σ81] at hW
                    refine lv_aload_n hx hb d_MD_door_110 rfl (lv_at hl 0 rfl) ?_
                    refine lv_dup hx hb d_MD_door_111 rfl ?_
                    refine gf_MD_170 C hW.1 d_MD_door_112 ?_
                    refine lv_iconst (v := 1) hx hb d_MD_door_115 (by decide) ?_
                    refine lv_iadd hx hb d_MD_door_116 ?_
                    refine pf_MD_170 C hD hW d_MD_door_117 (fun H locs hW => ?_)
                    obtain ⟨σ82, e_σ82, h⟩ := lt1_some h
                    rw [← e_σ82] at hW
                    refine lv_aload_n hx hb d_MD_door_120 rfl (lv_at hl 0 rfl) ?_
                    refine gf_MD_170 C hW.1 d_MD_door_121 ?_
                    refine lv_iconst (v := 1) hx hb d_MD_door_124 (by decide) ?_
                    refine lv_isub hx hb d_MD_door_125 ?_
                    exact W.iret hx hb hr (fun t ht _ => qr_i h ht hW) hW.2.2.2 d_MD_door_126
                  · rw [if_pos c77] at h
                    refine lv_iconst (v := 0) hx hb d_MD_door_67 (by decide) ?_
                    exact W.iret hx hb hr (fun t ht _ => qr_i h ht hW) hW.2.2.2 d_MD_door_68
                exact k61 x1 x2 x3 x4 1 1 s0 σ h _ _ hW _ (lv_sub hl [0, 1, 2, 3, 4] rfl)
      exact k22 a1 a2 a3 a4 0 σ h _ _ hW _ (lv_sub hl [0, 1, 2, 3, 4] rfl)
    · rw [if_neg c4] at h
      refine lv_iconst (v := 1) hx hb d_MD_door_17 (by decide) ?_
      refine lv_goto (tgt := 22) hx hb d_MD_door_18 (by decide) ?_
      have k22 : ∀ (x1 : Int32) (x2 : Int32) (x3 : Int32) (x4 : Int32) (s0 : Int32) (σ : Sg) (h : C_MD_door_22 x1 x2 x3 x4 s0 σ = some out) (H : Heap) (locs : List Loc) (hW : WR G ad cI cZ s σ H locs) (ls : Array Slot) (hl : lv_has ls 5 [(0, .ref (ad 0)), (1, .int x1), (2, .int x2), (3, .int x3), (4, .int x4)]), W p l e (headSpec wl_MD_door ({ frames := 1, cells := 0, slots := 0, locals := 23 } : Room)).room s m (([.ref (ad 0), .int a1, .int a2, .int a3, .int a4] : List Value).toArray) below meth c H locs 0 0 (MQ below (QRi G ad cI cZ out) (([.ref (ad 0), .int a1, .int a2, .int a3, .int a4] : List Value).toArray) s 0 0 (AR ad)) (F0 m 22 ls [.int s0, .ref (ad 0)]) := by
        intro x1 x2 x3 x4 s0 σ h H locs hW ls hl
        unfold C_MD_door_22 at h
        refine lv_iload_n hx hb d_MD_door_22 rfl (lv_at hl 1 rfl) ?_
        refine lv_iload_n hx hb d_MD_door_23 rfl (lv_at hl 2 rfl) ?_
        refine lv_icmp_eq (tgt := 46) hx hb d_MD_door_24 (by decide) (fun c5 => ?_) (fun c5 => ?_)
        · rw [if_pos c5] at h
          refine lv_iconst (v := 0) hx hb d_MD_door_46 (by decide) ?_
          refine lv_aload_n hx hb d_MD_door_47 rfl (lv_at hl 0 rfl) ?_
          refine gf_MD_170 C hW.1 d_MD_door_48 ?_
          refine lv_bipush (v := 40) hx hb d_MD_door_51 (by decide) ?_
          refine lv_icmp_ge (tgt := 60) hx hb d_MD_door_53 (by decide) (fun c55 => ?_) (fun c55 => ?_)
          · rw [if_pos c55] at h
            refine lv_iconst (v := 0) hx hb d_MD_door_60 (by decide) ?_
            have k61 : ∀ (x1 : Int32) (x2 : Int32) (x3 : Int32) (x4 : Int32) (s0 : Int32) (s1 : Int32) (s2 : Int32) (σ : Sg) (h : C_MD_door_61 x1 x2 x3 x4 s0 s1 s2 σ = some out) (H : Heap) (locs : List Loc) (hW : WR G ad cI cZ s σ H locs) (ls : Array Slot) (hl : lv_has ls 5 [(0, .ref (ad 0)), (1, .int x1), (2, .int x2), (3, .int x3), (4, .int x4)]), W p l e (headSpec wl_MD_door ({ frames := 1, cells := 0, slots := 0, locals := 23 } : Room)).room s m (([.ref (ad 0), .int a1, .int a2, .int a3, .int a4] : List Value).toArray) below meth c H locs 0 0 (MQ below (QRi G ad cI cZ out) (([.ref (ad 0), .int a1, .int a2, .int a3, .int a4] : List Value).toArray) s 0 0 (AR ad)) (F0 m 61 ls [.int s0, .int s1, .int s2, .ref (ad 0)]) := by
              intro x1 x2 x3 x4 s0 s1 s2 σ h H locs hW ls hl
              unfold C_MD_door_61 at h
              obtain ⟨r63, g_r63, h⟩ := ob_some h
              refine cl_MD_102 (rest := []) C hD (hml.trans hl.1.symm) hW g_r63 ⟨Nat.le_of_ble_eq_true rfl, Nat.le_of_ble_eq_true rfl⟩ (Nat.le_of_ble_eq_true rfl) d_MD_door_61 ⟨Nat.zero_le _, Nat.zero_le _⟩ (fun H locs hW => ?_)
              refine lv_if_ne (tgt := 69) hx hb d_MD_door_64 (by decide) (fun c64 => ?_) (fun c64 => ?_)
              · rw [if_neg c64] at h
                refine lv_aload_n hx hb d_MD_door_69 rfl (lv_at hl 0 rfl) ?_
                refine gf_MD_44 C hW.1 d_MD_door_70 ?_
                refine lv_aload_n hx hb d_MD_door_73 rfl (lv_at hl 0 rfl) ?_
                refine gf_MD_170 C hW.1 d_MD_door_74 ?_
                refine lv_iload_n hx hb d_MD_door_77 rfl (lv_at hl 1 rfl) ?_
                obtain ⟨hin, h⟩ := gd_some h
                refine asR_12 C hD hW hin d_MD_door_78 (fun H locs hW => ?_)
                obtain ⟨σ65, e_σ65, h⟩ := lt1_some h
                rw [← e_σ65] at hW
                refine lv_aload_n hx hb d_MD_door_79 rfl (lv_at hl 0 rfl) ?_
                refine gf_MD_47 C hW.1 d_MD_door_80 ?_
                refine lv_aload_n hx hb d_MD_door_83 rfl (lv_at hl 0 rfl) ?_
                refine gf_MD_170 C hW.1 d_MD_door_84 ?_
                refine lv_iload_n hx hb d_MD_door_87 rfl (lv_at hl 2 rfl) ?_
                obtain ⟨hin, h⟩ := gd_some h
                refine asR_13 C hD hW hin d_MD_door_88 (fun H locs hW => ?_)
                obtain ⟨σ66, e_σ66, h⟩ := lt1_some h
                rw [← e_σ66] at hW
                refine lv_aload_n hx hb d_MD_door_89 rfl (lv_at hl 0 rfl) ?_
                refine gf_MD_50 C hW.1 d_MD_door_90 ?_
                refine lv_aload_n hx hb d_MD_door_93 rfl (lv_at hl 0 rfl) ?_
                refine gf_MD_170 C hW.1 d_MD_door_94 ?_
                refine lv_iload_n hx hb d_MD_door_97 rfl (lv_at hl 3 rfl) ?_
                obtain ⟨hin, h⟩ := gd_some h
                refine asR_14 C hD hW hin d_MD_door_98 (fun H locs hW => ?_)
                obtain ⟨σ67, e_σ67, h⟩ := lt1_some h
                rw [← e_σ67] at hW
                refine lv_aload_n hx hb d_MD_door_99 rfl (lv_at hl 0 rfl) ?_
                refine gf_MD_53 C hW.1 d_MD_door_100 ?_
                refine lv_aload_n hx hb d_MD_door_103 rfl (lv_at hl 0 rfl) ?_
                refine gf_MD_170 C hW.1 d_MD_door_104 ?_
                refine lv_iload hx hb d_MD_door_107 (lv_at hl 4 rfl) ?_
                obtain ⟨hin, h⟩ := gd_some h
                refine asR_15 C hD hW hin d_MD_door_109 (fun H locs hW => ?_)
                obtain ⟨σ68, e_σ68, h⟩ := lt1_some h
                rw [← e_σ68] at hW
                refine lv_aload_n hx hb d_MD_door_110 rfl (lv_at hl 0 rfl) ?_
                refine lv_dup hx hb d_MD_door_111 rfl ?_
                refine gf_MD_170 C hW.1 d_MD_door_112 ?_
                refine lv_iconst (v := 1) hx hb d_MD_door_115 (by decide) ?_
                refine lv_iadd hx hb d_MD_door_116 ?_
                refine pf_MD_170 C hD hW d_MD_door_117 (fun H locs hW => ?_)
                obtain ⟨σ69, e_σ69, h⟩ := lt1_some h
                rw [← e_σ69] at hW
                refine lv_aload_n hx hb d_MD_door_120 rfl (lv_at hl 0 rfl) ?_
                refine gf_MD_170 C hW.1 d_MD_door_121 ?_
                refine lv_iconst (v := 1) hx hb d_MD_door_124 (by decide) ?_
                refine lv_isub hx hb d_MD_door_125 ?_
                exact W.iret hx hb hr (fun t ht _ => qr_i h ht hW) hW.2.2.2 d_MD_door_126
              · rw [if_pos c64] at h
                refine lv_iconst (v := 0) hx hb d_MD_door_67 (by decide) ?_
                exact W.iret hx hb hr (fun t ht _ => qr_i h ht hW) hW.2.2.2 d_MD_door_68
            exact k61 x1 x2 x3 x4 0 0 s0 σ h _ _ hW _ (lv_sub hl [0, 1, 2, 3, 4] rfl)
          · rw [if_neg c55] at h
            refine lv_iconst (v := 1) hx hb d_MD_door_56 (by decide) ?_
            refine lv_goto (tgt := 61) hx hb d_MD_door_57 (by decide) ?_
            have k61 : ∀ (x1 : Int32) (x2 : Int32) (x3 : Int32) (x4 : Int32) (s0 : Int32) (s1 : Int32) (s2 : Int32) (σ : Sg) (h : C_MD_door_61 x1 x2 x3 x4 s0 s1 s2 σ = some out) (H : Heap) (locs : List Loc) (hW : WR G ad cI cZ s σ H locs) (ls : Array Slot) (hl : lv_has ls 5 [(0, .ref (ad 0)), (1, .int x1), (2, .int x2), (3, .int x3), (4, .int x4)]), W p l e (headSpec wl_MD_door ({ frames := 1, cells := 0, slots := 0, locals := 23 } : Room)).room s m (([.ref (ad 0), .int a1, .int a2, .int a3, .int a4] : List Value).toArray) below meth c H locs 0 0 (MQ below (QRi G ad cI cZ out) (([.ref (ad 0), .int a1, .int a2, .int a3, .int a4] : List Value).toArray) s 0 0 (AR ad)) (F0 m 61 ls [.int s0, .int s1, .int s2, .ref (ad 0)]) := by
              intro x1 x2 x3 x4 s0 s1 s2 σ h H locs hW ls hl
              unfold C_MD_door_61 at h
              obtain ⟨r56, g_r56, h⟩ := ob_some h
              refine cl_MD_102 (rest := []) C hD (hml.trans hl.1.symm) hW g_r56 ⟨Nat.le_of_ble_eq_true rfl, Nat.le_of_ble_eq_true rfl⟩ (Nat.le_of_ble_eq_true rfl) d_MD_door_61 ⟨Nat.zero_le _, Nat.zero_le _⟩ (fun H locs hW => ?_)
              refine lv_if_ne (tgt := 69) hx hb d_MD_door_64 (by decide) (fun c57 => ?_) (fun c57 => ?_)
              · rw [if_neg c57] at h
                refine lv_aload_n hx hb d_MD_door_69 rfl (lv_at hl 0 rfl) ?_
                refine gf_MD_44 C hW.1 d_MD_door_70 ?_
                refine lv_aload_n hx hb d_MD_door_73 rfl (lv_at hl 0 rfl) ?_
                refine gf_MD_170 C hW.1 d_MD_door_74 ?_
                refine lv_iload_n hx hb d_MD_door_77 rfl (lv_at hl 1 rfl) ?_
                obtain ⟨hin, h⟩ := gd_some h
                refine asR_12 C hD hW hin d_MD_door_78 (fun H locs hW => ?_)
                obtain ⟨σ58, e_σ58, h⟩ := lt1_some h
                rw [← e_σ58] at hW
                refine lv_aload_n hx hb d_MD_door_79 rfl (lv_at hl 0 rfl) ?_
                refine gf_MD_47 C hW.1 d_MD_door_80 ?_
                refine lv_aload_n hx hb d_MD_door_83 rfl (lv_at hl 0 rfl) ?_
                refine gf_MD_170 C hW.1 d_MD_door_84 ?_
                refine lv_iload_n hx hb d_MD_door_87 rfl (lv_at hl 2 rfl) ?_
                obtain ⟨hin, h⟩ := gd_some h
                refine asR_13 C hD hW hin d_MD_door_88 (fun H locs hW => ?_)
                obtain ⟨σ59, e_σ59, h⟩ := lt1_some h
                rw [← e_σ59] at hW
                refine lv_aload_n hx hb d_MD_door_89 rfl (lv_at hl 0 rfl) ?_
                refine gf_MD_50 C hW.1 d_MD_door_90 ?_
                refine lv_aload_n hx hb d_MD_door_93 rfl (lv_at hl 0 rfl) ?_
                refine gf_MD_170 C hW.1 d_MD_door_94 ?_
                refine lv_iload_n hx hb d_MD_door_97 rfl (lv_at hl 3 rfl) ?_
                obtain ⟨hin, h⟩ := gd_some h
                refine asR_14 C hD hW hin d_MD_door_98 (fun H locs hW => ?_)
                obtain ⟨σ60, e_σ60, h⟩ := lt1_some h
                rw [← e_σ60] at hW
                refine lv_aload_n hx hb d_MD_door_99 rfl (lv_at hl 0 rfl) ?_
                refine gf_MD_53 C hW.1 d_MD_door_100 ?_
                refine lv_aload_n hx hb d_MD_door_103 rfl (lv_at hl 0 rfl) ?_
                refine gf_MD_170 C hW.1 d_MD_door_104 ?_
                refine lv_iload hx hb d_MD_door_107 (lv_at hl 4 rfl) ?_
                obtain ⟨hin, h⟩ := gd_some h
                refine asR_15 C hD hW hin d_MD_door_109 (fun H locs hW => ?_)
                obtain ⟨σ61, e_σ61, h⟩ := lt1_some h
                rw [← e_σ61] at hW
                refine lv_aload_n hx hb d_MD_door_110 rfl (lv_at hl 0 rfl) ?_
                refine lv_dup hx hb d_MD_door_111 rfl ?_
                refine gf_MD_170 C hW.1 d_MD_door_112 ?_
                refine lv_iconst (v := 1) hx hb d_MD_door_115 (by decide) ?_
                refine lv_iadd hx hb d_MD_door_116 ?_
                refine pf_MD_170 C hD hW d_MD_door_117 (fun H locs hW => ?_)
                obtain ⟨σ62, e_σ62, h⟩ := lt1_some h
                rw [← e_σ62] at hW
                refine lv_aload_n hx hb d_MD_door_120 rfl (lv_at hl 0 rfl) ?_
                refine gf_MD_170 C hW.1 d_MD_door_121 ?_
                refine lv_iconst (v := 1) hx hb d_MD_door_124 (by decide) ?_
                refine lv_isub hx hb d_MD_door_125 ?_
                exact W.iret hx hb hr (fun t ht _ => qr_i h ht hW) hW.2.2.2 d_MD_door_126
              · rw [if_pos c57] at h
                refine lv_iconst (v := 0) hx hb d_MD_door_67 (by decide) ?_
                exact W.iret hx hb hr (fun t ht _ => qr_i h ht hW) hW.2.2.2 d_MD_door_68
            exact k61 x1 x2 x3 x4 1 0 s0 σ h _ _ hW _ (lv_sub hl [0, 1, 2, 3, 4] rfl)
        · rw [if_neg c5] at h
          refine lv_iload_n hx hb d_MD_door_27 rfl (lv_at hl 3 rfl) ?_
          obtain ⟨r6, g_r6, h⟩ := ob_some h
          refine cl_MD_106 (rest := [.int s0, .ref (ad 0)]) C (hml.trans hl.1.symm) hW.1 g_r6 ⟨Nat.le_of_ble_eq_true rfl, Nat.le_of_ble_eq_true rfl⟩ (Nat.le_of_ble_eq_true rfl) d_MD_door_28 ⟨Nat.zero_le _, Nat.zero_le _⟩ ?_
          refine lv_if_eq (tgt := 46) hx hb d_MD_door_31 (by decide) (fun c7 => ?_) (fun c7 => ?_)
          · rw [if_pos c7] at h
            refine lv_iconst (v := 0) hx hb d_MD_door_46 (by decide) ?_
            refine lv_aload_n hx hb d_MD_door_47 rfl (lv_at hl 0 rfl) ?_
            refine gf_MD_170 C hW.1 d_MD_door_48 ?_
            refine lv_bipush (v := 40) hx hb d_MD_door_51 (by decide) ?_
            refine lv_icmp_ge (tgt := 60) hx hb d_MD_door_53 (by decide) (fun c40 => ?_) (fun c40 => ?_)
            · rw [if_pos c40] at h
              refine lv_iconst (v := 0) hx hb d_MD_door_60 (by decide) ?_
              have k61 : ∀ (x1 : Int32) (x2 : Int32) (x3 : Int32) (x4 : Int32) (s0 : Int32) (s1 : Int32) (s2 : Int32) (σ : Sg) (h : C_MD_door_61 x1 x2 x3 x4 s0 s1 s2 σ = some out) (H : Heap) (locs : List Loc) (hW : WR G ad cI cZ s σ H locs) (ls : Array Slot) (hl : lv_has ls 5 [(0, .ref (ad 0)), (1, .int x1), (2, .int x2), (3, .int x3), (4, .int x4)]), W p l e (headSpec wl_MD_door ({ frames := 1, cells := 0, slots := 0, locals := 23 } : Room)).room s m (([.ref (ad 0), .int a1, .int a2, .int a3, .int a4] : List Value).toArray) below meth c H locs 0 0 (MQ below (QRi G ad cI cZ out) (([.ref (ad 0), .int a1, .int a2, .int a3, .int a4] : List Value).toArray) s 0 0 (AR ad)) (F0 m 61 ls [.int s0, .int s1, .int s2, .ref (ad 0)]) := by
                intro x1 x2 x3 x4 s0 s1 s2 σ h H locs hW ls hl
                unfold C_MD_door_61 at h
                obtain ⟨r48, g_r48, h⟩ := ob_some h
                refine cl_MD_102 (rest := []) C hD (hml.trans hl.1.symm) hW g_r48 ⟨Nat.le_of_ble_eq_true rfl, Nat.le_of_ble_eq_true rfl⟩ (Nat.le_of_ble_eq_true rfl) d_MD_door_61 ⟨Nat.zero_le _, Nat.zero_le _⟩ (fun H locs hW => ?_)
                refine lv_if_ne (tgt := 69) hx hb d_MD_door_64 (by decide) (fun c49 => ?_) (fun c49 => ?_)
                · rw [if_neg c49] at h
                  refine lv_aload_n hx hb d_MD_door_69 rfl (lv_at hl 0 rfl) ?_
                  refine gf_MD_44 C hW.1 d_MD_door_70 ?_
                  refine lv_aload_n hx hb d_MD_door_73 rfl (lv_at hl 0 rfl) ?_
                  refine gf_MD_170 C hW.1 d_MD_door_74 ?_
                  refine lv_iload_n hx hb d_MD_door_77 rfl (lv_at hl 1 rfl) ?_
                  obtain ⟨hin, h⟩ := gd_some h
                  refine asR_12 C hD hW hin d_MD_door_78 (fun H locs hW => ?_)
                  obtain ⟨σ50, e_σ50, h⟩ := lt1_some h
                  rw [← e_σ50] at hW
                  refine lv_aload_n hx hb d_MD_door_79 rfl (lv_at hl 0 rfl) ?_
                  refine gf_MD_47 C hW.1 d_MD_door_80 ?_
                  refine lv_aload_n hx hb d_MD_door_83 rfl (lv_at hl 0 rfl) ?_
                  refine gf_MD_170 C hW.1 d_MD_door_84 ?_
                  refine lv_iload_n hx hb d_MD_door_87 rfl (lv_at hl 2 rfl) ?_
                  obtain ⟨hin, h⟩ := gd_some h
                  refine asR_13 C hD hW hin d_MD_door_88 (fun H locs hW => ?_)
                  obtain ⟨σ51, e_σ51, h⟩ := lt1_some h
                  rw [← e_σ51] at hW
                  refine lv_aload_n hx hb d_MD_door_89 rfl (lv_at hl 0 rfl) ?_
                  refine gf_MD_50 C hW.1 d_MD_door_90 ?_
                  refine lv_aload_n hx hb d_MD_door_93 rfl (lv_at hl 0 rfl) ?_
                  refine gf_MD_170 C hW.1 d_MD_door_94 ?_
                  refine lv_iload_n hx hb d_MD_door_97 rfl (lv_at hl 3 rfl) ?_
                  obtain ⟨hin, h⟩ := gd_some h
                  refine asR_14 C hD hW hin d_MD_door_98 (fun H locs hW => ?_)
                  obtain ⟨σ52, e_σ52, h⟩ := lt1_some h
                  rw [← e_σ52] at hW
                  refine lv_aload_n hx hb d_MD_door_99 rfl (lv_at hl 0 rfl) ?_
                  refine gf_MD_53 C hW.1 d_MD_door_100 ?_
                  refine lv_aload_n hx hb d_MD_door_103 rfl (lv_at hl 0 rfl) ?_
                  refine gf_MD_170 C hW.1 d_MD_door_104 ?_
                  refine lv_iload hx hb d_MD_door_107 (lv_at hl 4 rfl) ?_
                  obtain ⟨hin, h⟩ := gd_some h
                  refine asR_15 C hD hW hin d_MD_door_109 (fun H locs hW => ?_)
                  obtain ⟨σ53, e_σ53, h⟩ := lt1_some h
                  rw [← e_σ53] at hW
                  refine lv_aload_n hx hb d_MD_door_110 rfl (lv_at hl 0 rfl) ?_
                  refine lv_dup hx hb d_MD_door_111 rfl ?_
                  refine gf_MD_170 C hW.1 d_MD_door_112 ?_
                  refine lv_iconst (v := 1) hx hb d_MD_door_115 (by decide) ?_
                  refine lv_iadd hx hb d_MD_door_116 ?_
                  refine pf_MD_170 C hD hW d_MD_door_117 (fun H locs hW => ?_)
                  obtain ⟨σ54, e_σ54, h⟩ := lt1_some h
                  rw [← e_σ54] at hW
                  refine lv_aload_n hx hb d_MD_door_120 rfl (lv_at hl 0 rfl) ?_
                  refine gf_MD_170 C hW.1 d_MD_door_121 ?_
                  refine lv_iconst (v := 1) hx hb d_MD_door_124 (by decide) ?_
                  refine lv_isub hx hb d_MD_door_125 ?_
                  exact W.iret hx hb hr (fun t ht _ => qr_i h ht hW) hW.2.2.2 d_MD_door_126
                · rw [if_pos c49] at h
                  refine lv_iconst (v := 0) hx hb d_MD_door_67 (by decide) ?_
                  exact W.iret hx hb hr (fun t ht _ => qr_i h ht hW) hW.2.2.2 d_MD_door_68
              exact k61 x1 x2 x3 x4 0 0 s0 σ h _ _ hW _ (lv_sub hl [0, 1, 2, 3, 4] rfl)
            · rw [if_neg c40] at h
              refine lv_iconst (v := 1) hx hb d_MD_door_56 (by decide) ?_
              refine lv_goto (tgt := 61) hx hb d_MD_door_57 (by decide) ?_
              have k61 : ∀ (x1 : Int32) (x2 : Int32) (x3 : Int32) (x4 : Int32) (s0 : Int32) (s1 : Int32) (s2 : Int32) (σ : Sg) (h : C_MD_door_61 x1 x2 x3 x4 s0 s1 s2 σ = some out) (H : Heap) (locs : List Loc) (hW : WR G ad cI cZ s σ H locs) (ls : Array Slot) (hl : lv_has ls 5 [(0, .ref (ad 0)), (1, .int x1), (2, .int x2), (3, .int x3), (4, .int x4)]), W p l e (headSpec wl_MD_door ({ frames := 1, cells := 0, slots := 0, locals := 23 } : Room)).room s m (([.ref (ad 0), .int a1, .int a2, .int a3, .int a4] : List Value).toArray) below meth c H locs 0 0 (MQ below (QRi G ad cI cZ out) (([.ref (ad 0), .int a1, .int a2, .int a3, .int a4] : List Value).toArray) s 0 0 (AR ad)) (F0 m 61 ls [.int s0, .int s1, .int s2, .ref (ad 0)]) := by
                intro x1 x2 x3 x4 s0 s1 s2 σ h H locs hW ls hl
                unfold C_MD_door_61 at h
                obtain ⟨r41, g_r41, h⟩ := ob_some h
                refine cl_MD_102 (rest := []) C hD (hml.trans hl.1.symm) hW g_r41 ⟨Nat.le_of_ble_eq_true rfl, Nat.le_of_ble_eq_true rfl⟩ (Nat.le_of_ble_eq_true rfl) d_MD_door_61 ⟨Nat.zero_le _, Nat.zero_le _⟩ (fun H locs hW => ?_)
                refine lv_if_ne (tgt := 69) hx hb d_MD_door_64 (by decide) (fun c42 => ?_) (fun c42 => ?_)
                · rw [if_neg c42] at h
                  refine lv_aload_n hx hb d_MD_door_69 rfl (lv_at hl 0 rfl) ?_
                  refine gf_MD_44 C hW.1 d_MD_door_70 ?_
                  refine lv_aload_n hx hb d_MD_door_73 rfl (lv_at hl 0 rfl) ?_
                  refine gf_MD_170 C hW.1 d_MD_door_74 ?_
                  refine lv_iload_n hx hb d_MD_door_77 rfl (lv_at hl 1 rfl) ?_
                  obtain ⟨hin, h⟩ := gd_some h
                  refine asR_12 C hD hW hin d_MD_door_78 (fun H locs hW => ?_)
                  obtain ⟨σ43, e_σ43, h⟩ := lt1_some h
                  rw [← e_σ43] at hW
                  refine lv_aload_n hx hb d_MD_door_79 rfl (lv_at hl 0 rfl) ?_
                  refine gf_MD_47 C hW.1 d_MD_door_80 ?_
                  refine lv_aload_n hx hb d_MD_door_83 rfl (lv_at hl 0 rfl) ?_
                  refine gf_MD_170 C hW.1 d_MD_door_84 ?_
                  refine lv_iload_n hx hb d_MD_door_87 rfl (lv_at hl 2 rfl) ?_
                  obtain ⟨hin, h⟩ := gd_some h
                  refine asR_13 C hD hW hin d_MD_door_88 (fun H locs hW => ?_)
                  obtain ⟨σ44, e_σ44, h⟩ := lt1_some h
                  rw [← e_σ44] at hW
                  refine lv_aload_n hx hb d_MD_door_89 rfl (lv_at hl 0 rfl) ?_
                  refine gf_MD_50 C hW.1 d_MD_door_90 ?_
                  refine lv_aload_n hx hb d_MD_door_93 rfl (lv_at hl 0 rfl) ?_
                  refine gf_MD_170 C hW.1 d_MD_door_94 ?_
                  refine lv_iload_n hx hb d_MD_door_97 rfl (lv_at hl 3 rfl) ?_
                  obtain ⟨hin, h⟩ := gd_some h
                  refine asR_14 C hD hW hin d_MD_door_98 (fun H locs hW => ?_)
                  obtain ⟨σ45, e_σ45, h⟩ := lt1_some h
                  rw [← e_σ45] at hW
                  refine lv_aload_n hx hb d_MD_door_99 rfl (lv_at hl 0 rfl) ?_
                  refine gf_MD_53 C hW.1 d_MD_door_100 ?_
                  refine lv_aload_n hx hb d_MD_door_103 rfl (lv_at hl 0 rfl) ?_
                  refine gf_MD_170 C hW.1 d_MD_door_104 ?_
                  refine lv_iload hx hb d_MD_door_107 (lv_at hl 4 rfl) ?_
                  obtain ⟨hin, h⟩ := gd_some h
                  refine asR_15 C hD hW hin d_MD_door_109 (fun H locs hW => ?_)
                  obtain ⟨σ46, e_σ46, h⟩ := lt1_some h
                  rw [← e_σ46] at hW
                  refine lv_aload_n hx hb d_MD_door_110 rfl (lv_at hl 0 rfl) ?_
                  refine lv_dup hx hb d_MD_door_111 rfl ?_
                  refine gf_MD_170 C hW.1 d_MD_door_112 ?_
                  refine lv_iconst (v := 1) hx hb d_MD_door_115 (by decide) ?_
                  refine lv_iadd hx hb d_MD_door_116 ?_
                  refine pf_MD_170 C hD hW d_MD_door_117 (fun H locs hW => ?_)
                  obtain ⟨σ47, e_σ47, h⟩ := lt1_some h
                  rw [← e_σ47] at hW
                  refine lv_aload_n hx hb d_MD_door_120 rfl (lv_at hl 0 rfl) ?_
                  refine gf_MD_170 C hW.1 d_MD_door_121 ?_
                  refine lv_iconst (v := 1) hx hb d_MD_door_124 (by decide) ?_
                  refine lv_isub hx hb d_MD_door_125 ?_
                  exact W.iret hx hb hr (fun t ht _ => qr_i h ht hW) hW.2.2.2 d_MD_door_126
                · rw [if_pos c42] at h
                  refine lv_iconst (v := 0) hx hb d_MD_door_67 (by decide) ?_
                  exact W.iret hx hb hr (fun t ht _ => qr_i h ht hW) hW.2.2.2 d_MD_door_68
              exact k61 x1 x2 x3 x4 1 0 s0 σ h _ _ hW _ (lv_sub hl [0, 1, 2, 3, 4] rfl)
          · rw [if_neg c7] at h
            refine lv_iload hx hb d_MD_door_34 (lv_at hl 4 rfl) ?_
            obtain ⟨r8, g_r8, h⟩ := ob_some h
            refine cl_MD_106 (rest := [.int s0, .ref (ad 0)]) C (hml.trans hl.1.symm) hW.1 g_r8 ⟨Nat.le_of_ble_eq_true rfl, Nat.le_of_ble_eq_true rfl⟩ (Nat.le_of_ble_eq_true rfl) d_MD_door_36 ⟨Nat.zero_le _, Nat.zero_le _⟩ ?_
            refine lv_if_eq (tgt := 46) hx hb d_MD_door_39 (by decide) (fun c9 => ?_) (fun c9 => ?_)
            · rw [if_pos c9] at h
              refine lv_iconst (v := 0) hx hb d_MD_door_46 (by decide) ?_
              refine lv_aload_n hx hb d_MD_door_47 rfl (lv_at hl 0 rfl) ?_
              refine gf_MD_170 C hW.1 d_MD_door_48 ?_
              refine lv_bipush (v := 40) hx hb d_MD_door_51 (by decide) ?_
              refine lv_icmp_ge (tgt := 60) hx hb d_MD_door_53 (by decide) (fun c25 => ?_) (fun c25 => ?_)
              · rw [if_pos c25] at h
                refine lv_iconst (v := 0) hx hb d_MD_door_60 (by decide) ?_
                have k61 : ∀ (x1 : Int32) (x2 : Int32) (x3 : Int32) (x4 : Int32) (s0 : Int32) (s1 : Int32) (s2 : Int32) (σ : Sg) (h : C_MD_door_61 x1 x2 x3 x4 s0 s1 s2 σ = some out) (H : Heap) (locs : List Loc) (hW : WR G ad cI cZ s σ H locs) (ls : Array Slot) (hl : lv_has ls 5 [(0, .ref (ad 0)), (1, .int x1), (2, .int x2), (3, .int x3), (4, .int x4)]), W p l e (headSpec wl_MD_door ({ frames := 1, cells := 0, slots := 0, locals := 23 } : Room)).room s m (([.ref (ad 0), .int a1, .int a2, .int a3, .int a4] : List Value).toArray) below meth c H locs 0 0 (MQ below (QRi G ad cI cZ out) (([.ref (ad 0), .int a1, .int a2, .int a3, .int a4] : List Value).toArray) s 0 0 (AR ad)) (F0 m 61 ls [.int s0, .int s1, .int s2, .ref (ad 0)]) := by
                  intro x1 x2 x3 x4 s0 s1 s2 σ h H locs hW ls hl
                  unfold C_MD_door_61 at h
                  obtain ⟨r33, g_r33, h⟩ := ob_some h
                  refine cl_MD_102 (rest := []) C hD (hml.trans hl.1.symm) hW g_r33 ⟨Nat.le_of_ble_eq_true rfl, Nat.le_of_ble_eq_true rfl⟩ (Nat.le_of_ble_eq_true rfl) d_MD_door_61 ⟨Nat.zero_le _, Nat.zero_le _⟩ (fun H locs hW => ?_)
                  refine lv_if_ne (tgt := 69) hx hb d_MD_door_64 (by decide) (fun c34 => ?_) (fun c34 => ?_)
                  · rw [if_neg c34] at h
                    refine lv_aload_n hx hb d_MD_door_69 rfl (lv_at hl 0 rfl) ?_
                    refine gf_MD_44 C hW.1 d_MD_door_70 ?_
                    refine lv_aload_n hx hb d_MD_door_73 rfl (lv_at hl 0 rfl) ?_
                    refine gf_MD_170 C hW.1 d_MD_door_74 ?_
                    refine lv_iload_n hx hb d_MD_door_77 rfl (lv_at hl 1 rfl) ?_
                    obtain ⟨hin, h⟩ := gd_some h
                    refine asR_12 C hD hW hin d_MD_door_78 (fun H locs hW => ?_)
                    obtain ⟨σ35, e_σ35, h⟩ := lt1_some h
                    rw [← e_σ35] at hW
                    refine lv_aload_n hx hb d_MD_door_79 rfl (lv_at hl 0 rfl) ?_
                    refine gf_MD_47 C hW.1 d_MD_door_80 ?_
                    refine lv_aload_n hx hb d_MD_door_83 rfl (lv_at hl 0 rfl) ?_
                    refine gf_MD_170 C hW.1 d_MD_door_84 ?_
                    refine lv_iload_n hx hb d_MD_door_87 rfl (lv_at hl 2 rfl) ?_
                    obtain ⟨hin, h⟩ := gd_some h
                    refine asR_13 C hD hW hin d_MD_door_88 (fun H locs hW => ?_)
                    obtain ⟨σ36, e_σ36, h⟩ := lt1_some h
                    rw [← e_σ36] at hW
                    refine lv_aload_n hx hb d_MD_door_89 rfl (lv_at hl 0 rfl) ?_
                    refine gf_MD_50 C hW.1 d_MD_door_90 ?_
                    refine lv_aload_n hx hb d_MD_door_93 rfl (lv_at hl 0 rfl) ?_
                    refine gf_MD_170 C hW.1 d_MD_door_94 ?_
                    refine lv_iload_n hx hb d_MD_door_97 rfl (lv_at hl 3 rfl) ?_
                    obtain ⟨hin, h⟩ := gd_some h
                    refine asR_14 C hD hW hin d_MD_door_98 (fun H locs hW => ?_)
                    obtain ⟨σ37, e_σ37, h⟩ := lt1_some h
                    rw [← e_σ37] at hW
                    refine lv_aload_n hx hb d_MD_door_99 rfl (lv_at hl 0 rfl) ?_
                    refine gf_MD_53 C hW.1 d_MD_door_100 ?_
                    refine lv_aload_n hx hb d_MD_door_103 rfl (lv_at hl 0 rfl) ?_
                    refine gf_MD_170 C hW.1 d_MD_door_104 ?_
                    refine lv_iload hx hb d_MD_door_107 (lv_at hl 4 rfl) ?_
                    obtain ⟨hin, h⟩ := gd_some h
                    refine asR_15 C hD hW hin d_MD_door_109 (fun H locs hW => ?_)
                    obtain ⟨σ38, e_σ38, h⟩ := lt1_some h
                    rw [← e_σ38] at hW
                    refine lv_aload_n hx hb d_MD_door_110 rfl (lv_at hl 0 rfl) ?_
                    refine lv_dup hx hb d_MD_door_111 rfl ?_
                    refine gf_MD_170 C hW.1 d_MD_door_112 ?_
                    refine lv_iconst (v := 1) hx hb d_MD_door_115 (by decide) ?_
                    refine lv_iadd hx hb d_MD_door_116 ?_
                    refine pf_MD_170 C hD hW d_MD_door_117 (fun H locs hW => ?_)
                    obtain ⟨σ39, e_σ39, h⟩ := lt1_some h
                    rw [← e_σ39] at hW
                    refine lv_aload_n hx hb d_MD_door_120 rfl (lv_at hl 0 rfl) ?_
                    refine gf_MD_170 C hW.1 d_MD_door_121 ?_
                    refine lv_iconst (v := 1) hx hb d_MD_door_124 (by decide) ?_
                    refine lv_isub hx hb d_MD_door_125 ?_
                    exact W.iret hx hb hr (fun t ht _ => qr_i h ht hW) hW.2.2.2 d_MD_door_126
                  · rw [if_pos c34] at h
                    refine lv_iconst (v := 0) hx hb d_MD_door_67 (by decide) ?_
                    exact W.iret hx hb hr (fun t ht _ => qr_i h ht hW) hW.2.2.2 d_MD_door_68
                exact k61 x1 x2 x3 x4 0 0 s0 σ h _ _ hW _ (lv_sub hl [0, 1, 2, 3, 4] rfl)
              · rw [if_neg c25] at h
                refine lv_iconst (v := 1) hx hb d_MD_door_56 (by decide) ?_
                refine lv_goto (tgt := 61) hx hb d_MD_door_57 (by decide) ?_
                have k61 : ∀ (x1 : Int32) (x2 : Int32) (x3 : Int32) (x4 : Int32) (s0 : Int32) (s1 : Int32) (s2 : Int32) (σ : Sg) (h : C_MD_door_61 x1 x2 x3 x4 s0 s1 s2 σ = some out) (H : Heap) (locs : List Loc) (hW : WR G ad cI cZ s σ H locs) (ls : Array Slot) (hl : lv_has ls 5 [(0, .ref (ad 0)), (1, .int x1), (2, .int x2), (3, .int x3), (4, .int x4)]), W p l e (headSpec wl_MD_door ({ frames := 1, cells := 0, slots := 0, locals := 23 } : Room)).room s m (([.ref (ad 0), .int a1, .int a2, .int a3, .int a4] : List Value).toArray) below meth c H locs 0 0 (MQ below (QRi G ad cI cZ out) (([.ref (ad 0), .int a1, .int a2, .int a3, .int a4] : List Value).toArray) s 0 0 (AR ad)) (F0 m 61 ls [.int s0, .int s1, .int s2, .ref (ad 0)]) := by
                  intro x1 x2 x3 x4 s0 s1 s2 σ h H locs hW ls hl
                  unfold C_MD_door_61 at h
                  obtain ⟨r26, g_r26, h⟩ := ob_some h
                  refine cl_MD_102 (rest := []) C hD (hml.trans hl.1.symm) hW g_r26 ⟨Nat.le_of_ble_eq_true rfl, Nat.le_of_ble_eq_true rfl⟩ (Nat.le_of_ble_eq_true rfl) d_MD_door_61 ⟨Nat.zero_le _, Nat.zero_le _⟩ (fun H locs hW => ?_)
                  refine lv_if_ne (tgt := 69) hx hb d_MD_door_64 (by decide) (fun c27 => ?_) (fun c27 => ?_)
                  · rw [if_neg c27] at h
                    refine lv_aload_n hx hb d_MD_door_69 rfl (lv_at hl 0 rfl) ?_
                    refine gf_MD_44 C hW.1 d_MD_door_70 ?_
                    refine lv_aload_n hx hb d_MD_door_73 rfl (lv_at hl 0 rfl) ?_
                    refine gf_MD_170 C hW.1 d_MD_door_74 ?_
                    refine lv_iload_n hx hb d_MD_door_77 rfl (lv_at hl 1 rfl) ?_
                    obtain ⟨hin, h⟩ := gd_some h
                    refine asR_12 C hD hW hin d_MD_door_78 (fun H locs hW => ?_)
                    obtain ⟨σ28, e_σ28, h⟩ := lt1_some h
                    rw [← e_σ28] at hW
                    refine lv_aload_n hx hb d_MD_door_79 rfl (lv_at hl 0 rfl) ?_
                    refine gf_MD_47 C hW.1 d_MD_door_80 ?_
                    refine lv_aload_n hx hb d_MD_door_83 rfl (lv_at hl 0 rfl) ?_
                    refine gf_MD_170 C hW.1 d_MD_door_84 ?_
                    refine lv_iload_n hx hb d_MD_door_87 rfl (lv_at hl 2 rfl) ?_
                    obtain ⟨hin, h⟩ := gd_some h
                    refine asR_13 C hD hW hin d_MD_door_88 (fun H locs hW => ?_)
                    obtain ⟨σ29, e_σ29, h⟩ := lt1_some h
                    rw [← e_σ29] at hW
                    refine lv_aload_n hx hb d_MD_door_89 rfl (lv_at hl 0 rfl) ?_
                    refine gf_MD_50 C hW.1 d_MD_door_90 ?_
                    refine lv_aload_n hx hb d_MD_door_93 rfl (lv_at hl 0 rfl) ?_
                    refine gf_MD_170 C hW.1 d_MD_door_94 ?_
                    refine lv_iload_n hx hb d_MD_door_97 rfl (lv_at hl 3 rfl) ?_
                    obtain ⟨hin, h⟩ := gd_some h
                    refine asR_14 C hD hW hin d_MD_door_98 (fun H locs hW => ?_)
                    obtain ⟨σ30, e_σ30, h⟩ := lt1_some h
                    rw [← e_σ30] at hW
                    refine lv_aload_n hx hb d_MD_door_99 rfl (lv_at hl 0 rfl) ?_
                    refine gf_MD_53 C hW.1 d_MD_door_100 ?_
                    refine lv_aload_n hx hb d_MD_door_103 rfl (lv_at hl 0 rfl) ?_
                    refine gf_MD_170 C hW.1 d_MD_door_104 ?_
                    refine lv_iload hx hb d_MD_door_107 (lv_at hl 4 rfl) ?_
                    obtain ⟨hin, h⟩ := gd_some h
                    refine asR_15 C hD hW hin d_MD_door_109 (fun H locs hW => ?_)
                    obtain ⟨σ31, e_σ31, h⟩ := lt1_some h
                    rw [← e_σ31] at hW
                    refine lv_aload_n hx hb d_MD_door_110 rfl (lv_at hl 0 rfl) ?_
                    refine lv_dup hx hb d_MD_door_111 rfl ?_
                    refine gf_MD_170 C hW.1 d_MD_door_112 ?_
                    refine lv_iconst (v := 1) hx hb d_MD_door_115 (by decide) ?_
                    refine lv_iadd hx hb d_MD_door_116 ?_
                    refine pf_MD_170 C hD hW d_MD_door_117 (fun H locs hW => ?_)
                    obtain ⟨σ32, e_σ32, h⟩ := lt1_some h
                    rw [← e_σ32] at hW
                    refine lv_aload_n hx hb d_MD_door_120 rfl (lv_at hl 0 rfl) ?_
                    refine gf_MD_170 C hW.1 d_MD_door_121 ?_
                    refine lv_iconst (v := 1) hx hb d_MD_door_124 (by decide) ?_
                    refine lv_isub hx hb d_MD_door_125 ?_
                    exact W.iret hx hb hr (fun t ht _ => qr_i h ht hW) hW.2.2.2 d_MD_door_126
                  · rw [if_pos c27] at h
                    refine lv_iconst (v := 0) hx hb d_MD_door_67 (by decide) ?_
                    exact W.iret hx hb hr (fun t ht _ => qr_i h ht hW) hW.2.2.2 d_MD_door_68
                exact k61 x1 x2 x3 x4 1 0 s0 σ h _ _ hW _ (lv_sub hl [0, 1, 2, 3, 4] rfl)
            · rw [if_neg c9] at h
              refine lv_iconst (v := 1) hx hb d_MD_door_42 (by decide) ?_
              refine lv_goto (tgt := 47) hx hb d_MD_door_43 (by decide) ?_
              refine lv_aload_n hx hb d_MD_door_47 rfl (lv_at hl 0 rfl) ?_
              refine gf_MD_170 C hW.1 d_MD_door_48 ?_
              refine lv_bipush (v := 40) hx hb d_MD_door_51 (by decide) ?_
              refine lv_icmp_ge (tgt := 60) hx hb d_MD_door_53 (by decide) (fun c10 => ?_) (fun c10 => ?_)
              · rw [if_pos c10] at h
                refine lv_iconst (v := 0) hx hb d_MD_door_60 (by decide) ?_
                have k61 : ∀ (x1 : Int32) (x2 : Int32) (x3 : Int32) (x4 : Int32) (s0 : Int32) (s1 : Int32) (s2 : Int32) (σ : Sg) (h : C_MD_door_61 x1 x2 x3 x4 s0 s1 s2 σ = some out) (H : Heap) (locs : List Loc) (hW : WR G ad cI cZ s σ H locs) (ls : Array Slot) (hl : lv_has ls 5 [(0, .ref (ad 0)), (1, .int x1), (2, .int x2), (3, .int x3), (4, .int x4)]), W p l e (headSpec wl_MD_door ({ frames := 1, cells := 0, slots := 0, locals := 23 } : Room)).room s m (([.ref (ad 0), .int a1, .int a2, .int a3, .int a4] : List Value).toArray) below meth c H locs 0 0 (MQ below (QRi G ad cI cZ out) (([.ref (ad 0), .int a1, .int a2, .int a3, .int a4] : List Value).toArray) s 0 0 (AR ad)) (F0 m 61 ls [.int s0, .int s1, .int s2, .ref (ad 0)]) := by
                  intro x1 x2 x3 x4 s0 s1 s2 σ h H locs hW ls hl
                  unfold C_MD_door_61 at h
                  obtain ⟨r18, g_r18, h⟩ := ob_some h
                  refine cl_MD_102 (rest := []) C hD (hml.trans hl.1.symm) hW g_r18 ⟨Nat.le_of_ble_eq_true rfl, Nat.le_of_ble_eq_true rfl⟩ (Nat.le_of_ble_eq_true rfl) d_MD_door_61 ⟨Nat.zero_le _, Nat.zero_le _⟩ (fun H locs hW => ?_)
                  refine lv_if_ne (tgt := 69) hx hb d_MD_door_64 (by decide) (fun c19 => ?_) (fun c19 => ?_)
                  · rw [if_neg c19] at h
                    refine lv_aload_n hx hb d_MD_door_69 rfl (lv_at hl 0 rfl) ?_
                    refine gf_MD_44 C hW.1 d_MD_door_70 ?_
                    refine lv_aload_n hx hb d_MD_door_73 rfl (lv_at hl 0 rfl) ?_
                    refine gf_MD_170 C hW.1 d_MD_door_74 ?_
                    refine lv_iload_n hx hb d_MD_door_77 rfl (lv_at hl 1 rfl) ?_
                    obtain ⟨hin, h⟩ := gd_some h
                    refine asR_12 C hD hW hin d_MD_door_78 (fun H locs hW => ?_)
                    obtain ⟨σ20, e_σ20, h⟩ := lt1_some h
                    rw [← e_σ20] at hW
                    refine lv_aload_n hx hb d_MD_door_79 rfl (lv_at hl 0 rfl) ?_
                    refine gf_MD_47 C hW.1 d_MD_door_80 ?_
                    refine lv_aload_n hx hb d_MD_door_83 rfl (lv_at hl 0 rfl) ?_
                    refine gf_MD_170 C hW.1 d_MD_door_84 ?_
                    refine lv_iload_n hx hb d_MD_door_87 rfl (lv_at hl 2 rfl) ?_
                    obtain ⟨hin, h⟩ := gd_some h
                    refine asR_13 C hD hW hin d_MD_door_88 (fun H locs hW => ?_)
                    obtain ⟨σ21, e_σ21, h⟩ := lt1_some h
                    rw [← e_σ21] at hW
                    refine lv_aload_n hx hb d_MD_door_89 rfl (lv_at hl 0 rfl) ?_
                    refine gf_MD_50 C hW.1 d_MD_door_90 ?_
                    refine lv_aload_n hx hb d_MD_door_93 rfl (lv_at hl 0 rfl) ?_
                    refine gf_MD_170 C hW.1 d_MD_door_94 ?_
                    refine lv_iload_n hx hb d_MD_door_97 rfl (lv_at hl 3 rfl) ?_
                    obtain ⟨hin, h⟩ := gd_some h
                    refine asR_14 C hD hW hin d_MD_door_98 (fun H locs hW => ?_)
                    obtain ⟨σ22, e_σ22, h⟩ := lt1_some h
                    rw [← e_σ22] at hW
                    refine lv_aload_n hx hb d_MD_door_99 rfl (lv_at hl 0 rfl) ?_
                    refine gf_MD_53 C hW.1 d_MD_door_100 ?_
                    refine lv_aload_n hx hb d_MD_door_103 rfl (lv_at hl 0 rfl) ?_
                    refine gf_MD_170 C hW.1 d_MD_door_104 ?_
                    refine lv_iload hx hb d_MD_door_107 (lv_at hl 4 rfl) ?_
                    obtain ⟨hin, h⟩ := gd_some h
                    refine asR_15 C hD hW hin d_MD_door_109 (fun H locs hW => ?_)
                    obtain ⟨σ23, e_σ23, h⟩ := lt1_some h
                    rw [← e_σ23] at hW
                    refine lv_aload_n hx hb d_MD_door_110 rfl (lv_at hl 0 rfl) ?_
                    refine lv_dup hx hb d_MD_door_111 rfl ?_
                    refine gf_MD_170 C hW.1 d_MD_door_112 ?_
                    refine lv_iconst (v := 1) hx hb d_MD_door_115 (by decide) ?_
                    refine lv_iadd hx hb d_MD_door_116 ?_
                    refine pf_MD_170 C hD hW d_MD_door_117 (fun H locs hW => ?_)
                    obtain ⟨σ24, e_σ24, h⟩ := lt1_some h
                    rw [← e_σ24] at hW
                    refine lv_aload_n hx hb d_MD_door_120 rfl (lv_at hl 0 rfl) ?_
                    refine gf_MD_170 C hW.1 d_MD_door_121 ?_
                    refine lv_iconst (v := 1) hx hb d_MD_door_124 (by decide) ?_
                    refine lv_isub hx hb d_MD_door_125 ?_
                    exact W.iret hx hb hr (fun t ht _ => qr_i h ht hW) hW.2.2.2 d_MD_door_126
                  · rw [if_pos c19] at h
                    refine lv_iconst (v := 0) hx hb d_MD_door_67 (by decide) ?_
                    exact W.iret hx hb hr (fun t ht _ => qr_i h ht hW) hW.2.2.2 d_MD_door_68
                exact k61 x1 x2 x3 x4 0 1 s0 σ h _ _ hW _ (lv_sub hl [0, 1, 2, 3, 4] rfl)
              · rw [if_neg c10] at h
                refine lv_iconst (v := 1) hx hb d_MD_door_56 (by decide) ?_
                refine lv_goto (tgt := 61) hx hb d_MD_door_57 (by decide) ?_
                have k61 : ∀ (x1 : Int32) (x2 : Int32) (x3 : Int32) (x4 : Int32) (s0 : Int32) (s1 : Int32) (s2 : Int32) (σ : Sg) (h : C_MD_door_61 x1 x2 x3 x4 s0 s1 s2 σ = some out) (H : Heap) (locs : List Loc) (hW : WR G ad cI cZ s σ H locs) (ls : Array Slot) (hl : lv_has ls 5 [(0, .ref (ad 0)), (1, .int x1), (2, .int x2), (3, .int x3), (4, .int x4)]), W p l e (headSpec wl_MD_door ({ frames := 1, cells := 0, slots := 0, locals := 23 } : Room)).room s m (([.ref (ad 0), .int a1, .int a2, .int a3, .int a4] : List Value).toArray) below meth c H locs 0 0 (MQ below (QRi G ad cI cZ out) (([.ref (ad 0), .int a1, .int a2, .int a3, .int a4] : List Value).toArray) s 0 0 (AR ad)) (F0 m 61 ls [.int s0, .int s1, .int s2, .ref (ad 0)]) := by
                  intro x1 x2 x3 x4 s0 s1 s2 σ h H locs hW ls hl
                  unfold C_MD_door_61 at h
                  obtain ⟨r11, g_r11, h⟩ := ob_some h
                  refine cl_MD_102 (rest := []) C hD (hml.trans hl.1.symm) hW g_r11 ⟨Nat.le_of_ble_eq_true rfl, Nat.le_of_ble_eq_true rfl⟩ (Nat.le_of_ble_eq_true rfl) d_MD_door_61 ⟨Nat.zero_le _, Nat.zero_le _⟩ (fun H locs hW => ?_)
                  refine lv_if_ne (tgt := 69) hx hb d_MD_door_64 (by decide) (fun c12 => ?_) (fun c12 => ?_)
                  · rw [if_neg c12] at h
                    refine lv_aload_n hx hb d_MD_door_69 rfl (lv_at hl 0 rfl) ?_
                    refine gf_MD_44 C hW.1 d_MD_door_70 ?_
                    refine lv_aload_n hx hb d_MD_door_73 rfl (lv_at hl 0 rfl) ?_
                    refine gf_MD_170 C hW.1 d_MD_door_74 ?_
                    refine lv_iload_n hx hb d_MD_door_77 rfl (lv_at hl 1 rfl) ?_
                    obtain ⟨hin, h⟩ := gd_some h
                    refine asR_12 C hD hW hin d_MD_door_78 (fun H locs hW => ?_)
                    obtain ⟨σ13, e_σ13, h⟩ := lt1_some h
                    rw [← e_σ13] at hW
                    refine lv_aload_n hx hb d_MD_door_79 rfl (lv_at hl 0 rfl) ?_
                    refine gf_MD_47 C hW.1 d_MD_door_80 ?_
                    refine lv_aload_n hx hb d_MD_door_83 rfl (lv_at hl 0 rfl) ?_
                    refine gf_MD_170 C hW.1 d_MD_door_84 ?_
                    refine lv_iload_n hx hb d_MD_door_87 rfl (lv_at hl 2 rfl) ?_
                    obtain ⟨hin, h⟩ := gd_some h
                    refine asR_13 C hD hW hin d_MD_door_88 (fun H locs hW => ?_)
                    obtain ⟨σ14, e_σ14, h⟩ := lt1_some h
                    rw [← e_σ14] at hW
                    refine lv_aload_n hx hb d_MD_door_89 rfl (lv_at hl 0 rfl) ?_
                    refine gf_MD_50 C hW.1 d_MD_door_90 ?_
                    refine lv_aload_n hx hb d_MD_door_93 rfl (lv_at hl 0 rfl) ?_
                    refine gf_MD_170 C hW.1 d_MD_door_94 ?_
                    refine lv_iload_n hx hb d_MD_door_97 rfl (lv_at hl 3 rfl) ?_
                    obtain ⟨hin, h⟩ := gd_some h
                    refine asR_14 C hD hW hin d_MD_door_98 (fun H locs hW => ?_)
                    obtain ⟨σ15, e_σ15, h⟩ := lt1_some h
                    rw [← e_σ15] at hW
                    refine lv_aload_n hx hb d_MD_door_99 rfl (lv_at hl 0 rfl) ?_
                    refine gf_MD_53 C hW.1 d_MD_door_100 ?_
                    refine lv_aload_n hx hb d_MD_door_103 rfl (lv_at hl 0 rfl) ?_
                    refine gf_MD_170 C hW.1 d_MD_door_104 ?_
                    refine lv_iload hx hb d_MD_door_107 (lv_at hl 4 rfl) ?_
                    obtain ⟨hin, h⟩ := gd_some h
                    refine asR_15 C hD hW hin d_MD_door_109 (fun H locs hW => ?_)
                    obtain ⟨σ16, e_σ16, h⟩ := lt1_some h
                    rw [← e_σ16] at hW
                    refine lv_aload_n hx hb d_MD_door_110 rfl (lv_at hl 0 rfl) ?_
                    refine lv_dup hx hb d_MD_door_111 rfl ?_
                    refine gf_MD_170 C hW.1 d_MD_door_112 ?_
                    refine lv_iconst (v := 1) hx hb d_MD_door_115 (by decide) ?_
                    refine lv_iadd hx hb d_MD_door_116 ?_
                    refine pf_MD_170 C hD hW d_MD_door_117 (fun H locs hW => ?_)
                    obtain ⟨σ17, e_σ17, h⟩ := lt1_some h
                    rw [← e_σ17] at hW
                    refine lv_aload_n hx hb d_MD_door_120 rfl (lv_at hl 0 rfl) ?_
                    refine gf_MD_170 C hW.1 d_MD_door_121 ?_
                    refine lv_iconst (v := 1) hx hb d_MD_door_124 (by decide) ?_
                    refine lv_isub hx hb d_MD_door_125 ?_
                    exact W.iret hx hb hr (fun t ht _ => qr_i h ht hW) hW.2.2.2 d_MD_door_126
                  · rw [if_pos c12] at h
                    refine lv_iconst (v := 0) hx hb d_MD_door_67 (by decide) ?_
                    exact W.iret hx hb hr (fun t ht _ => qr_i h ht hW) hW.2.2.2 d_MD_door_68
                exact k61 x1 x2 x3 x4 1 1 s0 σ h _ _ hW _ (lv_sub hl [0, 1, 2, 3, 4] rfl)
      exact k22 a1 a2 a3 a4 1 σ h _ _ hW _ (lv_sub hl [0, 1, 2, 3, 4] rfl)
