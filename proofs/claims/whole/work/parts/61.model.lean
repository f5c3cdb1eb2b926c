abbrev wl_MD_lost : List Cond := .code ⟨"PlaceMovesModel", "lost", "(II)Z"⟩ prog_9_method_29_code 6 (some FieldType.boolean) :: WG
set_option maxHeartbeats 4000000 in
set_option maxRecDepth 100000 in
theorem c_MD_lost (l : Launch) (G : va_G) (ad : Nat → Nat) (cI cZ : ClassId) (hD : DR ad) (σ : Sg) (a1 : Int32) (a2 : Int32) (out : Int32 × Sg) (h : f_MD_lost σ a1 a2 = some out) : Met l ⟨"PlaceMovesModel", "lost", "(II)Z"⟩ wl_MD_lost ({ frames := 1, cells := 0, slots := 0, locals := 25 } : Room) (PcR G ad cI cZ σ [.ref (ad 0), .int a1, .int a2]) (QRi G ad cI cZ out) 0 0 (AR ad) := by
  refine Met.ofW (cc := prog_9_method_29_code) (maxL := 6) (ret := (some FieldType.boolean)) (by decide) rfl ?_
  intro p e s m args below meth c s₁ B hml hv
  obtain ⟨rfl, hP, hK⟩ := hv
  have hx := B.exec
  have hb := B.bytes
  have hr := B.returns
  have hts0 := atoms_spec (ws := wl_MD_lost) B.pre
  have hts : ∀ w ∈ WG, w.before _ s = true := fun w hw => hts0 w (List.mem_cons_of_mem _ hw)
  have hown : s.vm.findClass "PlaceMovesModel" = some m.cls := findClass_of_methodNamed B.named
  have hlocks := B.notSynchronized
  have C : CX "PlaceMovesModel" prog_9_method_29_code p s m _ c G cI cZ := ⟨hx, hb, hown, hts, hK⟩
  have hl := lv_entry ([.ref (ad 0), .int a1, .int a2]) (n := 6) (Nat.le_of_ble_eq_true rfl)
  rw [lg_entry_eq]
  generalize (lg_sl ([.ref (ad 0), .int a1, .int a2]) ++ List.replicate (6 - (lg_sl ([.ref (ad 0), .int a1, .int a2])).length) Slot.unset).toArray = ls at hl ⊢
  have hl : lv_has ls 6 [(0, .ref (ad 0)), (1, .int a1), (2, .int a2)] := hl
  unfold f_MD_lost at h
  have hW : WR G ad cI cZ s σ s.heap [] := ⟨hP, va_S.rf⟩
  refine lv_aload_n hx hb d_MD_lost_0 rfl (lv_at hl 0 rfl) ?_
  refine lv_iload_n hx hb d_MD_lost_1 rfl (lv_at hl 1 rfl) ?_
  obtain ⟨r1, g_r1, h⟩ := ob_some h
  refine cl_MD_110 (rest := []) C (hml.trans hl.1.symm) hW.1 g_r1 ⟨Nat.le_of_ble_eq_true rfl, Nat.le_of_ble_eq_true rfl⟩ (Nat.le_of_ble_eq_true rfl) d_MD_lost_2 ⟨Nat.zero_le _, Nat.zero_le _⟩ ?_
  refine lv_istore_n (lv' := [(3, .int r1), (0, .ref (ad 0)), (1, .int a1), (2, .int a2)]) hx hb d_MD_lost_5 rfl hl (by decide) rfl (fun ls hl => ?_)
  refine lv_aload_n hx hb d_MD_lost_6 rfl (lv_at hl 1 rfl) ?_
  refine lv_iload_n hx hb d_MD_lost_7 rfl (lv_at hl 0 rfl) ?_
  refine lv_iload_n hx hb d_MD_lost_8 rfl (lv_at hl 3 rfl) ?_
  refine lv_aload_n hx hb d_MD_lost_9 rfl (lv_at hl 1 rfl) ?_
  refine gf_MD_145 C hW.1 d_MD_lost_10 ?_
  refine lv_ldc (v := 1000000) hx hb hown (hts _ w_724) d_MD_lost_13 ?_
  obtain ⟨r2, g_r2, h⟩ := ob_some h
  refine cl_MD_98 (rest := [.int r1, .ref (ad 0)]) C (hml.trans hl.1.symm) hW.1 g_r2 ⟨Nat.le_of_ble_eq_true rfl, Nat.le_of_ble_eq_true rfl⟩ (Nat.le_of_ble_eq_true rfl) d_MD_lost_15 ⟨Nat.zero_le _, Nat.zero_le _⟩ ?_
  refine lv_iload_n hx hb d_MD_lost_18 rfl (lv_at hl 0 rfl) ?_
  refine lv_if_eq (tgt := 37) hx hb d_MD_lost_19 (by decide) (fun c3 => ?_) (fun c3 => ?_)
  · rw [if_pos c3] at h
    refine lv_iconst (v := 0) hx hb d_MD_lost_37 (by decide) ?_
    have k38 : ∀ (x1 : Int32) (x2 : Int32) (s0 : Int32) (s1 : Int32) (s2 : Int32) (σ : Sg) (h : C_MD_lost_38 x1 x2 s0 s1 s2 σ = some out) (H : Heap) (locs : List Loc) (hW : WR G ad cI cZ s σ H locs) (ls : Array Slot) (hl : lv_has ls 6 [(0, .ref (ad 0)), (1, .int x1), (2, .int x2)]), W p l e (headSpec wl_MD_lost ({ frames := 1, cells := 0, slots := 0, locals := 25 } : Room)).room s m (([.ref (ad 0), .int a1, .int a2] : List Value).toArray) below meth c H locs 0 0 (MQ below (QRi G ad cI cZ out) (([.ref (ad 0), .int a1, .int a2] : List Value).toArray) s 0 0 (AR ad)) (F0 m 38 ls [.int s0, .int s1, .int s2, .ref (ad 0)]) := by
      intro x1 x2 s0 s1 s2 σ h H locs hW ls hl
      unfold C_MD_lost_38 at h
      obtain ⟨r27, g_r27, h⟩ := ob_some h
      refine cl_MD_102 (rest := []) C hD (hml.trans hl.1.symm) hW g_r27 ⟨Nat.le_of_ble_eq_true rfl, Nat.le_of_ble_eq_true rfl⟩ (Nat.le_of_ble_eq_true rfl) d_MD_lost_38 ⟨Nat.zero_le _, Nat.zero_le _⟩ (fun H locs hW => ?_)
      refine lv_if_ne (tgt := 46) hx hb d_MD_lost_41 (by decide) (fun c28 => ?_) (fun c28 => ?_)
      · rw [if_neg c28] at h
        refine lv_aload_n hx hb d_MD_lost_46 rfl (lv_at hl 0 rfl) ?_
        refine lv_iload_n hx hb d_MD_lost_47 rfl (lv_at hl 1 rfl) ?_
        refine lv_iload_n hx hb d_MD_lost_48 rfl (lv_at hl 2 rfl) ?_
        obtain ⟨r29, g_r29, h⟩ := ob_some h
        refine cl_MD_119 (rest := []) C (hml.trans hl.1.symm) hW.1 g_r29 ⟨Nat.le_of_ble_eq_true rfl, Nat.le_of_ble_eq_true rfl⟩ (Nat.le_of_ble_eq_true rfl) d_MD_lost_49 ⟨Nat.zero_le _, Nat.zero_le _⟩ ?_
        refine lv_istore (lv' := [(4, .int r29), (0, .ref (ad 0)), (1, .int x1), (2, .int x2)]) hx hb d_MD_lost_52 hl (by decide) rfl (fun ls hl => ?_)
        refine lv_iload hx hb d_MD_lost_54 (lv_at hl 0 rfl) ?_
        refine lv_iconst (v := (-1)) hx hb d_MD_lost_56 (by decide) ?_
        refine lv_icmp_eq (tgt := 74) hx hb d_MD_lost_57 (by decide) (fun c30 => ?_) (fun c30 => ?_)
        · rw [if_pos c30] at h
          refine lv_iconst (v := 0) hx hb d_MD_lost_74 (by decide) ?_
          refine lv_istore (lv' := [(5, .int 0), (4, .int r29), (0, .ref (ad 0)), (1, .int x1), (2, .int x2)]) hx hb d_MD_lost_75 hl (by decide) rfl (fun ls hl => ?_)
          refine lv_iload hx hb d_MD_lost_77 (lv_at hl 0 rfl) ?_
          refine lv_if_eq (tgt := 90) hx hb d_MD_lost_79 (by decide) (fun c36 => ?_) (fun c36 => ?_)
          · rw [if_pos c36] at h
            refine lv_iload hx hb d_MD_lost_90 (lv_at hl 0 rfl) ?_
            exact W.zret hx hb hr rfl (fun t ht _ => qr_i h ht hW) hW.2.2.2 d_MD_lost_92
          · rw [if_neg c36] at h
            refine lv_aload_n hx hb d_MD_lost_82 rfl (lv_at hl 2 rfl) ?_
            refine lv_iload_n hx hb d_MD_lost_83 rfl (lv_at hl 3 rfl) ?_
            refine lv_iload_n hx hb d_MD_lost_84 rfl (lv_at hl 4 rfl) ?_
            refine lv_iconst (v := 2) hx hb d_MD_lost_85 (by decide) ?_
            refine lv_iconst (v := (-1)) hx hb d_MD_lost_86 (by decide) ?_
            obtain ⟨r37, g_r37, h⟩ := ob_some h
            refine cl_MD_157 (rest := []) C hD (hml.trans hl.1.symm) hW g_r37 ⟨Nat.le_of_ble_eq_true rfl, Nat.le_of_ble_eq_true rfl⟩ (Nat.le_of_ble_eq_true rfl) d_MD_lost_87 ⟨Nat.zero_le _, Nat.zero_le _⟩ (fun H locs hW => ?_)
            refine lv_iload hx hb d_MD_lost_90 (lv_at hl 0 rfl) ?_
            exact W.zret hx hb hr rfl (fun t ht _ => qr_i h ht hW) hW.2.2.2 d_MD_lost_92
        · rw [if_neg c30] at h
          refine lv_aload_n hx hb d_MD_lost_60 rfl (lv_at hl 1 rfl) ?_
          refine gf_MD_38 C hW.1 d_MD_lost_61 ?_
          refine lv_iload hx hb d_MD_lost_64 (lv_at hl 0 rfl) ?_
          obtain ⟨hin, h⟩ := gd_some h
          refine alR_10 C hW.1 hin d_MD_lost_66 ?_
          refine lv_if_ne (tgt := 74) hx hb d_MD_lost_67 (by decide) (fun c31 => ?_) (fun c31 => ?_)
          · rw [if_neg c31] at h
            refine lv_iconst (v := 0) hx hb d_MD_lost_74 (by decide) ?_
            refine lv_istore (lv' := [(5, .int 0), (4, .int r29), (0, .ref (ad 0)), (1, .int x1), (2, .int x2)]) hx hb d_MD_lost_75 hl (by decide) rfl (fun ls hl => ?_)
            refine lv_iload hx hb d_MD_lost_77 (lv_at hl 0 rfl) ?_
            refine lv_if_eq (tgt := 90) hx hb d_MD_lost_79 (by decide) (fun c34 => ?_) (fun c34 => ?_)
            · rw [if_pos c34] at h
              refine lv_iload hx hb d_MD_lost_90 (lv_at hl 0 rfl) ?_
              exact W.zret hx hb hr rfl (fun t ht _ => qr_i h ht hW) hW.2.2.2 d_MD_lost_92
            · rw [if_neg c34] at h
              refine lv_aload_n hx hb d_MD_lost_82 rfl (lv_at hl 2 rfl) ?_
              refine lv_iload_n hx hb d_MD_lost_83 rfl (lv_at hl 3 rfl) ?_
              refine lv_iload_n hx hb d_MD_lost_84 rfl (lv_at hl 4 rfl) ?_
              refine lv_iconst (v := 2) hx hb d_MD_lost_85 (by decide) ?_
              refine lv_iconst (v := (-1)) hx hb d_MD_lost_86 (by decide) ?_
              obtain ⟨r35, g_r35, h⟩ := ob_some h
              refine cl_MD_157 (rest := []) C hD (hml.trans hl.1.symm) hW g_r35 ⟨Nat.le_of_ble_eq_true rfl, Nat.le_of_ble_eq_true rfl⟩ (Nat.le_of_ble_eq_true rfl) d_MD_lost_87 ⟨Nat.zero_le _, Nat.zero_le _⟩ (fun H locs hW => ?_)
              refine lv_iload hx hb d_MD_lost_90 (lv_at hl 0 rfl) ?_
              exact W.zret hx hb hr rfl (fun t ht _ => qr_i h ht hW) hW.2.2.2 d_MD_lost_92
          · rw [if_pos c31] at h
            refine lv_iconst (v := 1) hx hb d_MD_lost_70 (by decide) ?_
            refine lv_goto (tgt := 75) hx hb d_MD_lost_71 (by decide) ?_
            refine lv_istore (lv' := [(5, .int 1), (4, .int r29), (0, .ref (ad 0)), (1, .int x1), (2, .int x2)]) hx hb d_MD_lost_75 hl (by decide) rfl (fun ls hl => ?_)
            refine lv_iload hx hb d_MD_lost_77 (lv_at hl 0 rfl) ?_
            refine lv_if_eq (tgt := 90) hx hb d_MD_lost_79 (by decide) (fun c32 => ?_) (fun c32 => ?_)
            · rw [if_pos c32] at h
              refine lv_iload hx hb d_MD_lost_90 (lv_at hl 0 rfl) ?_
              exact W.zret hx hb hr rfl (fun t ht _ => qr_i h ht hW) hW.2.2.2 d_MD_lost_92
            · rw [if_neg c32] at h
              refine lv_aload_n hx hb d_MD_lost_82 rfl (lv_at hl 2 rfl) ?_
              refine lv_iload_n hx hb d_MD_lost_83 rfl (lv_at hl 3 rfl) ?_
              refine lv_iload_n hx hb d_MD_lost_84 rfl (lv_at hl 4 rfl) ?_
              refine lv_iconst (v := 2) hx hb d_MD_lost_85 (by decide) ?_
              refine lv_iconst (v := (-1)) hx hb d_MD_lost_86 (by decide) ?_
              obtain ⟨r33, g_r33, h⟩ := ob_some h
              refine cl_MD_157 (rest := []) C hD (hml.trans hl.1.symm) hW g_r33 ⟨Nat.le_of_ble_eq_true rfl, Nat.le_of_ble_eq_true rfl⟩ (Nat.le_of_ble_eq_true rfl) d_MD_lost_87 ⟨Nat.zero_le _, Nat.zero_le _⟩ (fun H locs hW => ?_)
              refine lv_iload hx hb d_MD_lost_90 (lv_at hl 0 rfl) ?_
              exact W.zret hx hb hr rfl (fun t ht _ => qr_i h ht hW) hW.2.2.2 d_MD_lost_92
      · rw [if_pos c28] at h
        refine lv_iconst (v := 0) hx hb d_MD_lost_44 (by decide) ?_
        exact W.zret hx hb hr rfl (fun t ht _ => qr_i h ht hW) hW.2.2.2 d_MD_lost_45
    exact k38 a1 a2 0 r2 r1 σ h _ _ hW _ (lv_sub hl [1, 2, 3] rfl)
  · rw [if_neg c3] at h
    refine lv_aload_n hx hb d_MD_lost_22 rfl (lv_at hl 1 rfl) ?_
    refine gf_MD_32 C hW.1 d_MD_lost_23 ?_
    refine lv_iload_n hx hb d_MD_lost_26 rfl (lv_at hl 2 rfl) ?_
    obtain ⟨hin, h⟩ := gd_some h
    refine alR_8 C hW.1 hin d_MD_lost_27 ?_
    refine lv_bipush (v := 40) hx hb d_MD_lost_28 (by decide) ?_
    refine lv_icmp_ge (tgt := 37) hx hb d_MD_lost_30 (by decide) (fun c4 => ?_) (fun c4 => ?_)
    · rw [if_pos c4] at h
      refine lv_iconst (v := 0) hx hb d_MD_lost_37 (by decide) ?_
      have k38 : ∀ (x1 : Int32) (x2 : Int32) (s0 : Int32) (s1 : Int32) (s2 : Int32) (σ : Sg) (h : C_MD_lost_38 x1 x2 s0 s1 s2 σ = some out) (H : Heap) (locs : List Loc) (hW : WR G ad cI cZ s σ H locs) (ls : Array Slot) (hl : lv_has ls 6 [(0, .ref (ad 0)), (1, .int x1), (2, .int x2)]), W p l e (headSpec wl_MD_lost ({ frames := 1, cells := 0, slots := 0, locals := 25 } : Room)).room s m (([.ref (ad 0), .int a1, .int a2] : List Value).toArray) below meth c H locs 0 0 (MQ below (QRi G ad cI cZ out) (([.ref (ad 0), .int a1, .int a2] : List Value).toArray) s 0 0 (AR ad)) (F0 m 38 ls [.int s0, .int s1, .int s2, .ref (ad 0)]) := by
        intro x1 x2 s0 s1 s2 σ h H locs hW ls hl
        unfold C_MD_lost_38 at h
        obtain ⟨r16, g_r16, h⟩ := ob_some h
        refine cl_MD_102 (rest := []) C hD (hml.trans hl.1.symm) hW g_r16 ⟨Nat.le_of_ble_eq_true rfl, Nat.le_of_ble_eq_true rfl⟩ (Nat.le_of_ble_eq_true rfl) d_MD_lost_38 ⟨Nat.zero_le _, Nat.zero_le _⟩ (fun H locs hW => ?_)
        refine lv_if_ne (tgt := 46) hx hb d_MD_lost_41 (by decide) (fun c17 => ?_) (fun c17 => ?_)
        · rw [if_neg c17] at h
          refine lv_aload_n hx hb d_MD_lost_46 rfl (lv_at hl 0 rfl) ?_
          refine lv_iload_n hx hb d_MD_lost_47 rfl (lv_at hl 1 rfl) ?_
          refine lv_iload_n hx hb d_MD_lost_48 rfl (lv_at hl 2 rfl) ?_
          obtain ⟨r18, g_r18, h⟩ := ob_some h
          refine cl_MD_119 (rest := []) C (hml.trans hl.1.symm) hW.1 g_r18 ⟨Nat.le_of_ble_eq_true rfl, Nat.le_of_ble_eq_true rfl⟩ (Nat.le_of_ble_eq_true rfl) d_MD_lost_49 ⟨Nat.zero_le _, Nat.zero_le _⟩ ?_
          refine lv_istore (lv' := [(4, .int r18), (0, .ref (ad 0)), (1, .int x1), (2, .int x2)]) hx hb d_MD_lost_52 hl (by decide) rfl (fun ls hl => ?_)
          refine lv_iload hx hb d_MD_lost_54 (lv_at hl 0 rfl) ?_
          refine lv_iconst (v := (-1)) hx hb d_MD_lost_56 (by decide) ?_
          refine lv_icmp_eq (tgt := 74) hx hb d_MD_lost_57 (by decide) (fun c19 => ?_) (fun c19 => ?_)
          · rw [if_pos c19] at h
            refine lv_iconst (v := 0) hx hb d_MD_lost_74 (by decide) ?_
            refine lv_istore (lv' := [(5, .int 0), (4, .int r18), (0, .ref (ad 0)), (1, .int x1), (2, .int x2)]) hx hb d_MD_lost_75 hl (by decide) rfl (fun ls hl => ?_)
            refine lv_iload hx hb d_MD_lost_77 (lv_at hl 0 rfl) ?_
            refine lv_if_eq (tgt := 90) hx hb d_MD_lost_79 (by decide) (fun c25 => ?_) (fun c25 => ?_)
            · rw [if_pos c25] at h
              refine lv_iload hx hb d_MD_lost_90 (lv_at hl 0 rfl) ?_
              exact W.zret hx hb hr rfl (fun t ht _ => qr_i h ht hW) hW.2.2.2 d_MD_lost_92
            · rw [if_neg c25] at h
              refine lv_aload_n hx hb d_MD_lost_82 rfl (lv_at hl 2 rfl) ?_
              refine lv_iload_n hx hb d_MD_lost_83 rfl (lv_at hl 3 rfl) ?_
              refine lv_iload_n hx hb d_MD_lost_84 rfl (lv_at hl 4 rfl) ?_
              refine lv_iconst (v := 2) hx hb d_MD_lost_85 (by decide) ?_
              refine lv_iconst (v := (-1)) hx hb d_MD_lost_86 (by decide) ?_
              obtain ⟨r26, g_r26, h⟩ := ob_some h
              refine cl_MD_157 (rest := []) C hD (hml.trans hl.1.symm) hW g_r26 ⟨Nat.le_of_ble_eq_true rfl, Nat.le_of_ble_eq_true rfl⟩ (Nat.le_of_ble_eq_true rfl) d_MD_lost_87 ⟨Nat.zero_le _, Nat.zero_le _⟩ (fun H locs hW => ?_)
              refine lv_iload hx hb d_MD_lost_90 (lv_at hl 0 rfl) ?_
              exact W.zret hx hb hr rfl (fun t ht _ => qr_i h ht hW) hW.2.2.2 d_MD_lost_92
          · rw [if_neg c19] at h
            refine lv_aload_n hx hb d_MD_lost_60 rfl (lv_at hl 1 rfl) ?_
            refine gf_MD_38 C hW.1 d_MD_lost_61 ?_
            refine lv_iload hx hb d_MD_lost_64 (lv_at hl 0 rfl) ?_
            obtain ⟨hin, h⟩ := gd_some h
            refine alR_10 C hW.1 hin d_MD_lost_66 ?_
            refine lv_if_ne (tgt := 74) hx hb d_MD_lost_67 (by decide) (fun c20 => ?_) (fun c20 => ?_)
            · rw [if_neg c20] at h
              refine lv_iconst (v := 0) hx hb d_MD_lost_74 (by decide) ?_
              refine lv_istore (lv' := [(5, .int 0), (4, .int r18), (0, .ref (ad 0)), (1, .int x1), (2, .int x2)]) hx hb d_MD_lost_75 hl (by decide) rfl (fun ls hl => ?_)
              refine lv_iload hx hb d_MD_lost_77 (lv_at hl 0 rfl) ?_
              refine lv_if_eq (tgt := 90) hx hb d_MD_lost_79 (by decide) (fun c23 => ?_) (fun c23 => ?_)
              · rw [if_pos c23] at h
                refine lv_iload hx hb d_MD_lost_90 (lv_at hl 0 rfl) ?_
                exact W.zret hx hb hr rfl (fun t ht _ => qr_i h ht hW) hW.2.2.2 d_MD_lost_92
              · rw [if_neg c23] at h
                refine lv_aload_n hx hb d_MD_lost_82 rfl (lv_at hl 2 rfl) ?_
                refine lv_iload_n hx hb d_MD_lost_83 rfl (lv_at hl 3 rfl) ?_
                refine lv_iload_n hx hb d_MD_lost_84 rfl (lv_at hl 4 rfl) ?_
                refine lv_iconst (v := 2) hx hb d_MD_lost_85 (by decide) ?_
                refine lv_iconst (v := (-1)) hx hb d_MD_lost_86 (by decide) ?_
                obtain ⟨r24, g_r24, h⟩ := ob_some h
                refine cl_MD_157 (rest := []) C hD (hml.trans hl.1.symm) hW g_r24 ⟨Nat.le_of_ble_eq_true rfl, Nat.le_of_ble_eq_true rfl⟩ (Nat.le_of_ble_eq_true rfl) d_MD_lost_87 ⟨Nat.zero_le _, Nat.zero_le _⟩ (fun H locs hW => ?_)
                refine lv_iload hx hb d_MD_lost_90 (lv_at hl 0 rfl) ?_
                exact W.zret hx hb hr rfl (fun t ht _ => qr_i h ht hW) hW.2.2.2 d_MD_lost_92
            · rw [if_pos c20] at h
              refine lv_iconst (v := 1) hx hb d_MD_lost_70 (by decide) ?_
              refine lv_goto (tgt := 75) hx hb d_MD_lost_71 (by decide) ?_
              refine lv_istore (lv' := [(5, .int 1), (4, .int r18), (0, .ref (ad 0)), (1, .int x1), (2, .int x2)]) hx hb d_MD_lost_75 hl (by decide) rfl (fun ls hl => ?_)
              refine lv_iload hx hb d_MD_lost_77 (lv_at hl 0 rfl) ?_
              refine lv_if_eq (tgt := 90) hx hb d_MD_lost_79 (by decide) (fun c21 => ?_) (fun c21 => ?_)
              · rw [if_pos c21] at h
                refine lv_iload hx hb d_MD_lost_90 (lv_at hl 0 rfl) ?_
                exact W.zret hx hb hr rfl (fun t ht _ => qr_i h ht hW) hW.2.2.2 d_MD_lost_92
              · rw [if_neg c21] at h
                refine lv_aload_n hx hb d_MD_lost_82 rfl (lv_at hl 2 rfl) ?_
                refine lv_iload_n hx hb d_MD_lost_83 rfl (lv_at hl 3 rfl) ?_
                refine lv_iload_n hx hb d_MD_lost_84 rfl (lv_at hl 4 rfl) ?_
                refine lv_iconst (v := 2) hx hb d_MD_lost_85 (by decide) ?_
                refine lv_iconst (v := (-1)) hx hb d_MD_lost_86 (by decide) ?_
                obtain ⟨r22, g_r22, h⟩ := ob_some h
                refine cl_MD_157 (rest := []) C hD (hml.trans hl.1.symm) hW g_r22 ⟨Nat.le_of_ble_eq_true rfl, Nat.le_of_ble_eq_true rfl⟩ (Nat.le_of_ble_eq_true rfl) d_MD_lost_87 ⟨Nat.zero_le _, Nat.zero_le _⟩ (fun H locs hW => ?_)
                refine lv_iload hx hb d_MD_lost_90 (lv_at hl 0 rfl) ?_
                exact W.zret hx hb hr rfl (fun t ht _ => qr_i h ht hW) hW.2.2.2 d_MD_lost_92
        · rw [if_pos c17] at h
          refine lv_iconst (v := 0) hx hb d_MD_lost_44 (by decide) ?_
          exact W.zret hx hb hr rfl (fun t ht _ => qr_i h ht hW) hW.2.2.2 d_MD_lost_45
      exact k38 a1 a2 0 r2 r1 σ h _ _ hW _ (lv_sub hl [1, 2, 3] rfl)
    · rw [if_neg c4] at h
      refine lv_iconst (v := 1) hx hb d_MD_lost_33 (by decide) ?_
      refine lv_goto (tgt := 38) hx hb d_MD_lost_34 (by decide) ?_
      have k38 : ∀ (x1 : Int32) (x2 : Int32) (s0 : Int32) (s1 : Int32) (s2 : Int32) (σ : Sg) (h : C_MD_lost_38 x1 x2 s0 s1 s2 σ = some out) (H : Heap) (locs : List Loc) (hW : WR G ad cI cZ s σ H locs) (ls : Array Slot) (hl : lv_has ls 6 [(0, .ref (ad 0)), (1, .int x1), (2, .int x2)]), W p l e (headSpec wl_MD_lost ({ frames := 1, cells := 0, slots := 0, locals := 25 } : Room)).room s m (([.ref (ad 0), .int a1, .int a2] : List Value).toArray) below meth c H locs 0 0 (MQ below (QRi G ad cI cZ out) (([.ref (ad 0), .int a1, .int a2] : List Value).toArray) s 0 0 (AR ad)) (F0 m 38 ls [.int s0, .int s1, .int s2, .ref (ad 0)]) := by
        intro x1 x2 s0 s1 s2 σ h H locs hW ls hl
        unfold C_MD_lost_38 at h
        obtain ⟨r5, g_r5, h⟩ := ob_some h
        refine cl_MD_102 (rest := []) C hD (hml.trans hl.1.symm) hW g_r5 ⟨Nat.le_of_ble_eq_true rfl, Nat.le_of_ble_eq_true rfl⟩ (Nat.le_of_ble_eq_true rfl) d_MD_lost_38 ⟨Nat.zero_le _, Nat.zero_le _⟩ (fun H locs hW => ?_)
        refine lv_if_ne (tgt := 46) hx hb d_MD_lost_41 (by decide) (fun c6 => ?_) (fun c6 => ?_)
        · rw [if_neg c6] at h
          refine lv_aload_n hx hb d_MD_lost_46 rfl (lv_at hl 0 rfl) ?_
          refine lv_iload_n hx hb d_MD_lost_47 rfl (lv_at hl 1 rfl) ?_
          refine lv_iload_n hx hb d_MD_lost_48 rfl (lv_at hl 2 rfl) ?_
          obtain ⟨r7, g_r7, h⟩ := ob_some h
          refine cl_MD_119 (rest := []) C (hml.trans hl.1.symm) hW.1 g_r7 ⟨Nat.le_of_ble_eq_true rfl, Nat.le_of_ble_eq_true rfl⟩ (Nat.le_of_ble_eq_true rfl) d_MD_lost_49 ⟨Nat.zero_le _, Nat.zero_le _⟩ ?_
          refine lv_istore (lv' := [(4, .int r7), (0, .ref (ad 0)), (1, .int x1), (2, .int x2)]) hx hb d_MD_lost_52 hl (by decide) rfl (fun ls hl => ?_)
          refine lv_iload hx hb d_MD_lost_54 (lv_at hl 0 rfl) ?_
          refine lv_iconst (v := (-1)) hx hb d_MD_lost_56 (by decide) ?_
          refine lv_icmp_eq (tgt := 74) hx hb d_MD_lost_57 (by decide) (fun c8 => ?_) (fun c8 => ?_)
          · rw [if_pos c8] at h
            refine lv_iconst (v := 0) hx hb d_MD_lost_74 (by decide) ?_
            refine lv_istore (lv' := [(5, .int 0), (4, .int r7), (0, .ref (ad 0)), (1, .int x1), (2, .int x2)]) hx hb d_MD_lost_75 hl (by decide) rfl (fun ls hl => ?_)
            refine lv_iload hx hb d_MD_lost_77 (lv_at hl 0 rfl) ?_
            refine lv_if_eq (tgt := 90) hx hb d_MD_lost_79 (by decide) (fun c14 => ?_) (fun c14 => ?_)
            · rw [if_pos c14] at h
              refine lv_iload hx hb d_MD_lost_90 (lv_at hl 0 rfl) ?_
              exact W.zret hx hb hr rfl (fun t ht _ => qr_i h ht hW) hW.2.2.2 d_MD_lost_92
            · rw [if_neg c14] at h
              refine lv_aload_n hx hb d_MD_lost_82 rfl (lv_at hl 2 rfl) ?_
              refine lv_iload_n hx hb d_MD_lost_83 rfl (lv_at hl 3 rfl) ?_
              refine lv_iload_n hx hb d_MD_lost_84 rfl (lv_at hl 4 rfl) ?_
              refine lv_iconst (v := 2) hx hb d_MD_lost_85 (by decide) ?_
              refine lv_iconst (v := (-1)) hx hb d_MD_lost_86 (by decide) ?_
              obtain ⟨r15, g_r15, h⟩ := ob_some h
              refine cl_MD_157 (rest := []) C hD (hml.trans hl.1.symm) hW g_r15 ⟨Nat.le_of_ble_eq_true rfl, Nat.le_of_ble_eq_true rfl⟩ (Nat.le_of_ble_eq_true rfl) d_MD_lost_87 ⟨Nat.zero_le _, Nat.zero_le _⟩ (fun H locs hW => ?_)
              refine lv_iload hx hb d_MD_lost_90 (lv_at hl 0 rfl) ?_
              exact W.zret hx hb hr rfl (fun t ht _ => qr_i h ht hW) hW.2.2.2 d_MD_lost_92
          · rw [if_neg c8] at h
            refine lv_aload_n hx hb d_MD_lost_60 rfl (lv_at hl 1 rfl) ?_
            refine gf_MD_38 C hW.1 d_MD_lost_61 ?_
            refine lv_iload hx hb d_MD_lost_64 (lv_at hl 0 rfl) ?_
            obtain ⟨hin, h⟩ := gd_some h
            refine alR_10 C hW.1 hin d_MD_lost_66 ?_
            refine lv_if_ne (tgt := 74) hx hb d_MD_lost_67 (by decide) (fun c9 => ?_) (fun c9 => ?_)
            · rw [if_neg c9] at h
              refine lv_iconst (v := 0) hx hb d_MD_lost_74 (by decide) ?_
              refine lv_istore (lv' := [(5, .int 0), (4, .int r7), (0, .ref (ad 0)), (1, .int x1), (2, .int x2)]) hx hb d_MD_lost_75 hl (by decide) rfl (fun ls hl => ?_)
              refine lv_iload hx hb d_MD_lost_77 (lv_at hl 0 rfl) ?_
              refine lv_if_eq (tgt := 90) hx hb d_MD_lost_79 (by decide) (fun c12 => ?_) (fun c12 => ?_)
              · rw [if_pos c12] at h
                refine lv_iload hx hb d_MD_lost_90 (lv_at hl 0 rfl) ?_
                exact W.zret hx hb hr rfl (fun t ht _ => qr_i h ht hW) hW.2.2.2 d_MD_lost_92
              · rw [if_neg c12] at h
                refine lv_aload_n hx hb d_MD_lost_82 rfl (lv_at hl 2 rfl) ?_
                refine lv_iload_n hx hb d_MD_lost_83 rfl (lv_at hl 3 rfl) ?_
                refine lv_iload_n hx hb d_MD_lost_84 rfl (lv_at hl 4 rfl) ?_
                refine lv_iconst (v := 2) hx hb d_MD_lost_85 (by decide) ?_
                refine lv_iconst (v := (-1)) hx hb d_MD_lost_86 (by decide) ?_
                obtain ⟨r13, g_r13, h⟩ := ob_some h
                refine cl_MD_157 (rest := []) C hD (hml.trans hl.1.symm) hW g_r13 ⟨Nat.le_of_ble_eq_true rfl, Nat.le_of_ble_eq_true rfl⟩ (Nat.le_of_ble_eq_true rfl) d_MD_lost_87 ⟨Nat.zero_le _, Nat.zero_le _⟩ (fun H locs hW => ?_)
                refine lv_iload hx hb d_MD_lost_90 (lv_at hl 0 rfl) ?_
                exact W.zret hx hb hr rfl (fun t ht _ => qr_i h ht hW) hW.2.2.2 d_MD_lost_92
            · rw [if_pos c9] at h
              refine lv_iconst (v := 1) hx hb d_MD_lost_70 (by decide) ?_
              refine lv_goto (tgt := 75) hx hb d_MD_lost_71 (by decide) ?_
              refine lv_istore (lv' := [(5, .int 1), (4, .int r7), (0, .ref (ad 0)), (1, .int x1), (2, .int x2)]) hx hb d_MD_lost_75 hl (by decide) rfl (fun ls hl => ?_)
              refine lv_iload hx hb d_MD_lost_77 (lv_at hl 0 rfl) ?_
              refine lv_if_eq (tgt := 90) hx hb d_MD_lost_79 (by decide) (fun c10 => ?_) (fun c10 => ?_)
              · rw [if_pos c10] at h
                refine lv_iload hx hb d_MD_lost_90 (lv_at hl 0 rfl) ?_
                exact W.zret hx hb hr rfl (fun t ht _ => qr_i h ht hW) hW.2.2.2 d_MD_lost_92
              · rw [if_neg c10] at h
                refine lv_aload_n hx hb d_MD_lost_82 rfl (lv_at hl 2 rfl) ?_
                refine lv_iload_n hx hb d_MD_lost_83 rfl (lv_at hl 3 rfl) ?_
                refine lv_iload_n hx hb d_MD_lost_84 rfl (lv_at hl 4 rfl) ?_
                refine lv_iconst (v := 2) hx hb d_MD_lost_85 (by decide) ?_
                refine lv_iconst (v := (-1)) hx hb d_MD_lost_86 (by decide) ?_
                obtain ⟨r11, g_r11, h⟩ := ob_some h
                refine cl_MD_157 (rest := []) C hD (hml.trans hl.1.symm) hW g_r11 ⟨Nat.le_of_ble_eq_true rfl, Nat.le_of_ble_eq_true rfl⟩ (Nat.le_of_ble_eq_true rfl) d_MD_lost_87 ⟨Nat.zero_le _, Nat.zero_le _⟩ (fun H locs hW => ?_)
                refine lv_iload hx hb d_MD_lost_90 (lv_at hl 0 rfl) ?_
                exact W.zret hx hb hr rfl (fun t ht _ => qr_i h ht hW) hW.2.2.2 d_MD_lost_92
        · rw [if_pos c6] at h
          refine lv_iconst (v := 0) hx hb d_MD_lost_44 (by decide) ?_
          exact W.zret hx hb hr rfl (fun t ht _ => qr_i h ht hW) hW.2.2.2 d_MD_lost_45
      exact k38 a1 a2 1 r2 r1 σ h _ _ hW _ (lv_sub hl [1, 2, 3] rfl)
abbrev wl_MD_where : List Cond := .code ⟨"PlaceMovesModel", "where", "(II)I"⟩ prog_9_method_30_code 3 (some FieldType.int) :: WG
set_option maxHeartbeats 4000000 in
set_option maxRecDepth 100000 in
theorem c_MD_where (l : Launch) (G : va_G) (ad : Nat → Nat) (cI cZ : ClassId) (hD : DR ad) (σ : Sg) (a1 : Int32) (a2 : Int32) (out : Int32 × Sg) (h : f_MD_where σ a1 a2 = some out) : Met l ⟨"PlaceMovesModel", "where", "(II)I"⟩ wl_MD_where ({ frames := 2, cells := 0, slots := 0, locals := 49 } : Room) (PcR G ad cI cZ σ [.ref (ad 0), .int a1, .int a2]) (QRi G ad cI cZ out) 0 0 (AR ad) := by
  refine Met.ofW (cc := prog_9_method_30_code) (maxL := 3) (ret := (some FieldType.int)) (by decide) rfl ?_
  intro p e s m args below meth c s₁ B hml hv
  obtain ⟨rfl, hP, hK⟩ := hv
  have hx := B.exec
  have hb := B.bytes
  have hr := B.returns
  have hts0 := atoms_spec (ws := wl_MD_where) B.pre
  have hts : ∀ w ∈ WG, w.before _ s = true := fun w hw => hts0 w (List.mem_cons_of_mem _ hw)
  have hown : s.vm.findClass "PlaceMovesModel" = some m.cls := findClass_of_methodNamed B.named
  have hlocks := B.notSynchronized
  have C : CX "PlaceMovesModel" prog_9_method_30_code p s m _ c G cI cZ := ⟨hx, hb, hown, hts, hK⟩
  have hl := lv_entry ([.ref (ad 0), .int a1, .int a2]) (n := 3) (Nat.le_of_ble_eq_true rfl)
  rw [lg_entry_eq]
  generalize (lg_sl ([.ref (ad 0), .int a1, .int a2]) ++ List.replicate (3 - (lg_sl ([.ref (ad 0), .int a1, .int a2])).length) Slot.unset).toArray = ls at hl ⊢
  have hl : lv_has ls 3 [(0, .ref (ad 0)), (1, .int a1), (2, .int a2)] := hl
  unfold f_MD_where at h
  have hW : WR G ad cI cZ s σ s.heap [] := ⟨hP, va_S.rf⟩
  refine lv_aload_n hx hb d_MD_where_0 rfl (lv_at hl 0 rfl) ?_
  refine lv_aload_n hx hb d_MD_where_1 rfl (lv_at hl 0 rfl) ?_
  refine lv_iload_n hx hb d_MD_where_2 rfl (lv_at hl 1 rfl) ?_
  obtain ⟨r1, g_r1, h⟩ := ob_some h
  refine cl_MD_110 (rest := [.ref (ad 0)]) C (hml.trans hl.1.symm) hW.1 g_r1 ⟨Nat.le_of_ble_eq_true rfl, Nat.le_of_ble_eq_true rfl⟩ (Nat.le_of_ble_eq_true rfl) d_MD_where_3 ⟨Nat.zero_le _, Nat.zero_le _⟩ ?_
  refine lv_iconst (v := 1) hx hb d_MD_where_6 (by decide) ?_
  refine lv_iconst (v := 1) hx hb d_MD_where_7 (by decide) ?_
  obtain ⟨r2, g_r2, h⟩ := ob_some h
  refine cl_MD_102 (rest := []) C hD (hml.trans hl.1.symm) hW g_r2 ⟨Nat.le_of_ble_eq_true rfl, Nat.le_of_ble_eq_true rfl⟩ (Nat.le_of_ble_eq_true rfl) d_MD_where_8 ⟨Nat.zero_le _, Nat.zero_le _⟩ (fun H locs hW => ?_)
  refine lv_if_eq (tgt := 23) hx hb d_MD_where_11 (by decide) (fun c3 => ?_) (fun c3 => ?_)
  · rw [if_pos c3] at h
    refine lv_iconst (v := 0) hx hb d_MD_where_23 (by decide) ?_
    exact W.iret hx hb hr (fun t ht _ => qr_i h ht hW) hW.2.2.2 d_MD_where_24
  · rw [if_neg c3] at h
    refine lv_aload_n hx hb d_MD_where_14 rfl (lv_at hl 0 rfl) ?_
    refine lv_iload_n hx hb d_MD_where_15 rfl (lv_at hl 1 rfl) ?_
    refine lv_iload_n hx hb d_MD_where_16 rfl (lv_at hl 2 rfl) ?_
    obtain ⟨r4, g_r4, h⟩ := ob_some h
    refine cl_MD_130 (rest := []) C (hml.trans hl.1.symm) hW.1 g_r4 ⟨Nat.le_of_ble_eq_true rfl, Nat.le_of_ble_eq_true rfl⟩ (Nat.le_of_ble_eq_true rfl) d_MD_where_17 ⟨Nat.zero_le _, Nat.zero_le _⟩ ?_
    refine lv_goto (tgt := 24) hx hb d_MD_where_20 (by decide) ?_
    exact W.iret hx hb hr (fun t ht _ => qr_i h ht hW) hW.2.2.2 d_MD_where_24
abbrev wl_MD_last : List Cond := .code ⟨"PlaceMovesModel", "last", "(I)I"⟩ prog_9_method_31_code 7 (some FieldType.int) :: WG
set_option maxHeartbeats 4000000 in
set_option maxRecDepth 100000 in
theorem c_MD_last (l : Launch) (G : va_G) (ad : Nat → Nat) (cI cZ : ClassId) (hD : DR ad) (σ : Sg) (a1 : Int32) (out : Int32 × Sg) (h : f_MD_last σ a1 = some out) : Met l ⟨"PlaceMovesModel", "last", "(I)I"⟩ wl_MD_last ({ frames := 2, cells := 0, slots := 0, locals := 49 } : Room) (PcR G ad cI cZ σ [.ref (ad 0), .int a1]) (QRi G ad cI cZ out) 0 0 (AR ad) := by
  refine Met.ofW (cc := prog_9_method_31_code) (maxL := 7) (ret := (some FieldType.int)) (by decide) rfl ?_
  intro p e s m args below meth c s₁ B hml hv
  obtain ⟨rfl, hP, hK⟩ := hv
  have hx := B.exec
  have hb := B.bytes
  have hr := B.returns
  have hts0 := atoms_spec (ws := wl_MD_last) B.pre
  have hts : ∀ w ∈ WG, w.before _ s = true := fun w hw => hts0 w (List.mem_cons_of_mem _ hw)
  have hown : s.vm.findClass "PlaceMovesModel" = some m.cls := findClass_of_methodNamed B.named
  have hlocks := B.notSynchronized
  have C : CX "PlaceMovesModel" prog_9_method_31_code p s m _ c G cI cZ := ⟨hx, hb, hown, hts, hK⟩
  have hl := lv_entry ([.ref (ad 0), .int a1]) (n := 7) (Nat.le_of_ble_eq_true rfl)
  rw [lg_entry_eq]
  generalize (lg_sl ([.ref (ad 0), .int a1]) ++ List.replicate (7 - (lg_sl ([.ref (ad 0), .int a1])).length) Slot.unset).toArray = ls at hl ⊢
  have hl : lv_has ls 7 [(0, .ref (ad 0)), (1, .int a1)] := hl
  unfold f_MD_last at h
  have hW : WR G ad cI cZ s σ s.heap [] := ⟨hP, va_S.rf⟩
  refine lv_aload_n hx hb d_MD_last_0 rfl (lv_at hl 0 rfl) ?_
  refine lv_aload_n hx hb d_MD_last_1 rfl (lv_at hl 0 rfl) ?_
  refine lv_iload_n hx hb d_MD_last_2 rfl (lv_at hl 1 rfl) ?_
  obtain ⟨r1, g_r1, h⟩ := ob_some h
  refine cl_MD_110 (rest := [.ref (ad 0)]) C (hml.trans hl.1.symm) hW.1 g_r1 ⟨Nat.le_of_ble_eq_true rfl, Nat.le_of_ble_eq_true rfl⟩ (Nat.le_of_ble_eq_true rfl) d_MD_last_3 ⟨Nat.zero_le _, Nat.zero_le _⟩ ?_
  refine lv_iconst (v := 1) hx hb d_MD_last_6 (by decide) ?_
  refine lv_iconst (v := 1) hx hb d_MD_last_7 (by decide) ?_
  obtain ⟨r2, g_r2, h⟩ := ob_some h
  refine cl_MD_102 (rest := []) C hD (hml.trans hl.1.symm) hW g_r2 ⟨Nat.le_of_ble_eq_true rfl, Nat.le_of_ble_eq_true rfl⟩ (Nat.le_of_ble_eq_true rfl) d_MD_last_8 ⟨Nat.zero_le _, Nat.zero_le _⟩ (fun H locs hW => ?_)
  refine lv_if_ne (tgt := 16) hx hb d_MD_last_11 (by decide) (fun c3 => ?_) (fun c3 => ?_)
  · rw [if_neg c3] at h
    refine lv_aload_n hx hb d_MD_last_16 rfl (lv_at hl 0 rfl) ?_
    refine gf_MD_145 C hW.1 d_MD_last_17 ?_
    refine lv_istore_n (lv' := [(2, .int (r2.2 0 1)), (0, .ref (ad 0)), (1, .int a1)]) hx hb d_MD_last_20 rfl hl (by decide) rfl (fun ls hl => ?_)
    refine lv_aload_n hx hb d_MD_last_21 rfl (lv_at hl 1 rfl) ?_
    refine lv_iload_n hx hb d_MD_last_22 rfl (lv_at hl 2 rfl) ?_
    refine lv_iload_n hx hb d_MD_last_23 rfl (lv_at hl 0 rfl) ?_
    obtain ⟨r4, g_r4, h⟩ := ob_some h
    refine cl_MD_130 (rest := []) C (hml.trans hl.1.symm) hW.1 g_r4 ⟨Nat.le_of_ble_eq_true rfl, Nat.le_of_ble_eq_true rfl⟩ (Nat.le_of_ble_eq_true rfl) d_MD_last_24 ⟨Nat.zero_le _, Nat.zero_le _⟩ ?_
    refine lv_istore_n (lv' := [(3, .int r4), (2, .int (r2.2 0 1)), (0, .ref (ad 0)), (1, .int a1)]) hx hb d_MD_last_27 rfl hl (by decide) rfl (fun ls hl => ?_)
    have k28 : ∀ (n28 : Nat) (x1 : Int32) (x2 : Int32) (x3 : Int32) (σ : Sg) (h : L_MD_last_28 n28 x1 x2 x3 σ = some out) (H : Heap) (locs : List Loc) (hW : WR G ad cI cZ s σ H locs) (ls : Array Slot) (hl : lv_has ls 7 [(0, .ref (ad 0)), (1, .int x1), (2, .int x2), (3, .int x3)]), W p l e (headSpec wl_MD_last ({ frames := 2, cells := 0, slots := 0, locals := 49 } : Room)).room s m (([.ref (ad 0), .int a1] : List Value).toArray) below meth c H locs 0 0 (MQ below (QRi G ad cI cZ out) (([.ref (ad 0), .int a1] : List Value).toArray) s 0 0 (AR ad)) (F0 m 28 ls []) := by
      intro n28
      induction n28 with
      | zero =>
        intro x1 x2 x3 σ h
        exact absurd h (by intro z; cases z)
      | succ n28 ih28 =>
        intro x1 x2 x3 σ h H locs hW ls hl
        replace h : B_MD_last_28 (L_MD_last_28 n28) x1 x2 x3 σ = some out := h
        unfold B_MD_last_28 at h
        refine lv_iload_n hx hb d_MD_last_28 rfl (lv_at hl 3 rfl) ?_
        refine lv_iconst (v := (-1)) hx hb d_MD_last_29 (by decide) ?_
        refine lv_icmp_ne (tgt := 147) hx hb d_MD_last_30 (by decide) (fun c5 => ?_) (fun c5 => ?_)
        · rw [if_neg c5] at h
          refine lv_iload_n hx hb d_MD_last_147 rfl (lv_at hl 3 rfl) ?_
          exact W.iret hx hb hr (fun t ht _ => qr_i h ht hW) hW.2.2.2 d_MD_last_148
        · rw [if_pos c5] at h
          refine lv_iload_n hx hb d_MD_last_33 rfl (lv_at hl 2 rfl) ?_
          refine lv_if_lt (tgt := 147) hx hb d_MD_last_34 (by decide) (fun c6 => ?_) (fun c6 => ?_)
          · rw [if_pos c6] at h
            refine lv_iload_n hx hb d_MD_last_147 rfl (lv_at hl 3 rfl) ?_
            exact W.iret hx hb hr (fun t ht _ => qr_i h ht hW) hW.2.2.2 d_MD_last_148
          · rw [if_neg c6] at h
            refine lv_iconst (v := (-1)) hx hb d_MD_last_37 (by decide) ?_
            refine lv_istore (lv' := [(4, .int ((-1))), (0, .ref (ad 0)), (1, .int x1), (2, .int x2), (3, .int x3)]) hx hb d_MD_last_38 hl (by decide) rfl (fun ls hl => ?_)
            refine lv_iconst (v := 0) hx hb d_MD_last_40 (by decide) ?_
            refine lv_istore (lv' := [(5, .int 0), (4, .int ((-1))), (0, .ref (ad 0)), (1, .int x1), (2, .int x2), (3, .int x3)]) hx hb d_MD_last_41 hl (by decide) rfl (fun ls hl => ?_)
            have k43 : ∀ (n43 : Nat) (x1 : Int32) (x2 : Int32) (x4 : Int32) (x5 : Int32) (σ : Sg) (h : L_MD_last_43 (L_MD_last_28 n28) n43 x1 x2 x4 x5 σ = some out) (H : Heap) (locs : List Loc) (hW : WR G ad cI cZ s σ H locs) (ls : Array Slot) (hl : lv_has ls 7 [(0, .ref (ad 0)), (1, .int x1), (2, .int x2), (4, .int x4), (5, .int x5)]), W p l e (headSpec wl_MD_last ({ frames := 2, cells := 0, slots := 0, locals := 49 } : Room)).room s m (([.ref (ad 0), .int a1] : List Value).toArray) below meth c H locs 0 0 (MQ below (QRi G ad cI cZ out) (([.ref (ad 0), .int a1] : List Value).toArray) s 0 0 (AR ad)) (F0 m 43 ls []) := by
              intro n43
              induction n43 with
              | zero =>
                intro x1 x2 x4 x5 σ h
                exact absurd h (by intro z; cases z)
              | succ n43 ih43 =>
                intro x1 x2 x4 x5 σ h H locs hW ls hl
                replace h : B_MD_last_43 (L_MD_last_28 n28) (L_MD_last_43 (L_MD_last_28 n28) n43) x1 x2 x4 x5 σ = some out := h
                unfold B_MD_last_43 at h
                refine lv_iload hx hb d_MD_last_43 (lv_at hl 4 rfl) ?_
                refine lv_sipush (v := 800) hx hb d_MD_last_45 (by decide) ?_
                refine lv_icmp_ge (tgt := 124) hx hb d_MD_last_48 (by decide) (fun c7 => ?_) (fun c7 => ?_)
                · rw [if_pos c7] at h
                  refine lv_iload hx hb d_MD_last_124 (lv_at hl 3 rfl) ?_
                  refine lv_iconst (v := 1) hx hb d_MD_last_126 (by decide) ?_
                  refine lv_isub hx hb d_MD_last_127 ?_
                  refine lv_istore_n (lv' := [(2, .int (x4 - 1)), (0, .ref (ad 0)), (1, .int x1), (4, .int x4), (5, .int x5)]) hx hb d_MD_last_128 rfl hl (by decide) rfl (fun ls hl => ?_)
                  refine lv_iload_n hx hb d_MD_last_129 rfl (lv_at hl 0 rfl) ?_
                  refine lv_if_lt (tgt := 142) hx hb d_MD_last_130 (by decide) (fun c19 => ?_) (fun c19 => ?_)
                  · rw [if_pos c19] at h
                    refine lv_iconst (v := (-1)) hx hb d_MD_last_142 (by decide) ?_
                    refine lv_istore_n (lv' := [(3, .int ((-1))), (2, .int (x4 - 1)), (0, .ref (ad 0)), (1, .int x1), (4, .int x4), (5, .int x5)]) hx hb d_MD_last_143 rfl hl (by decide) rfl (fun ls hl => ?_)
                    refine lv_goto (tgt := 28) hx hb d_MD_last_144 (by decide) ?_
                    exact ih28 x1 (x4 - 1) ((-1)) σ h _ _ hW _ (lv_sub hl [2, 3, 1, 0] rfl)
                  · rw [if_neg c19] at h
                    refine lv_aload_n hx hb d_MD_last_133 rfl (lv_at hl 1 rfl) ?_
                    refine lv_iload_n hx hb d_MD_last_134 rfl (lv_at hl 2 rfl) ?_
                    refine lv_iload_n hx hb d_MD_last_135 rfl (lv_at hl 0 rfl) ?_
                    obtain ⟨r20, g_r20, h⟩ := ob_some h
                    refine cl_MD_130 (rest := []) C (hml.trans hl.1.symm) hW.1 g_r20 ⟨Nat.le_of_ble_eq_true rfl, Nat.le_of_ble_eq_true rfl⟩ (Nat.le_of_ble_eq_true rfl) d_MD_last_136 ⟨Nat.zero_le _, Nat.zero_le _⟩ ?_
                    refine lv_goto (tgt := 143) hx hb d_MD_last_139 (by decide) ?_
                    refine lv_istore_n (lv' := [(3, .int r20), (2, .int (x4 - 1)), (0, .ref (ad 0)), (1, .int x1), (4, .int x4), (5, .int x5)]) hx hb d_MD_last_143 rfl hl (by decide) rfl (fun ls hl => ?_)
                    refine lv_goto (tgt := 28) hx hb d_MD_last_144 (by decide) ?_
                    exact ih28 x1 (x4 - 1) r20 σ h _ _ hW _ (lv_sub hl [2, 3, 1, 0] rfl)
                · rw [if_neg c7] at h
                  refine lv_iload hx hb d_MD_last_51 (lv_at hl 4 rfl) ?_
                  refine lv_bipush (v := 40) hx hb d_MD_last_53 (by decide) ?_
                  refine lv_irem hx hb d_MD_last_55 (by decide) ?_
                  refine lv_aload_n hx hb d_MD_last_56 rfl (lv_at hl 0 rfl) ?_
                  refine gf_MD_32 C hW.1 d_MD_last_57 ?_
                  refine lv_iload hx hb d_MD_last_60 (lv_at hl 4 rfl) ?_
                  refine lv_bipush (v := 40) hx hb d_MD_last_62 (by decide) ?_
                  refine lv_idiv hx hb d_MD_last_64 (by decide) ?_
                  obtain ⟨hin, h⟩ := gd_some h
                  refine alR_8 C hW.1 hin d_MD_last_65 ?_
                  refine lv_icmp_ge (tgt := 84) hx hb d_MD_last_66 (by decide) (fun c8 => ?_) (fun c8 => ?_)
                  · rw [if_pos c8] at h
                    refine lv_iconst (v := 0) hx hb d_MD_last_84 (by decide) ?_
                    have k85 : ∀ (x1 : Int32) (x2 : Int32) (x4 : Int32) (x5 : Int32) (s0 : Int32) (σ : Sg) (h : C_MD_last_85 (L_MD_last_28 n28) (L_MD_last_43 (L_MD_last_28 n28) n43) x1 x2 x4 x5 s0 σ = some out) (H : Heap) (locs : List Loc) (hW : WR G ad cI cZ s σ H locs) (ls : Array Slot) (hl : lv_has ls 7 [(0, .ref (ad 0)), (1, .int x1), (2, .int x2), (4, .int x4), (5, .int x5)]), W p l e (headSpec wl_MD_last ({ frames := 2, cells := 0, slots := 0, locals := 49 } : Room)).room s m (([.ref (ad 0), .int a1] : List Value).toArray) below meth c H locs 0 0 (MQ below (QRi G ad cI cZ out) (([.ref (ad 0), .int a1] : List Value).toArray) s 0 0 (AR ad)) (F0 m 85 ls [.int s0]) := by
                      intro x1 x2 x4 x5 s0 σ h H locs hW ls hl
                      unfold C_MD_last_85 at h
                      refine lv_istore (lv' := [(6, .int s0), (0, .ref (ad 0)), (1, .int x1), (2, .int x2), (4, .int x4), (5, .int x5)]) hx hb d_MD_last_85 hl (by decide) rfl (fun ls hl => ?_)
                      refine lv_iload hx hb d_MD_last_87 (lv_at hl 0 rfl) ?_
                      refine lv_if_eq (tgt := 114) hx hb d_MD_last_89 (by decide) (fun c16 => ?_) (fun c16 => ?_)
                      · rw [if_pos c16] at h
                        refine lv_iload hx hb d_MD_last_114 (lv_at hl 4 rfl) ?_
                        refine lv_istore (lv' := [(4, .int x4), (6, .int s0), (0, .ref (ad 0)), (1, .int x1), (2, .int x2), (5, .int x5)]) hx hb d_MD_last_116 hl (by decide) rfl (fun ls hl => ?_)
                        refine lv_iinc (v := x5 + 1) (lv' := [(5, .int (x5 + 1)), (4, .int x4), (6, .int s0), (0, .ref (ad 0)), (1, .int x1), (2, .int x2)]) hx hb d_MD_last_118 hl (k := 5) rfl rfl (by decide) rfl (fun ls hl => ?_)
                        refine lv_goto (tgt := 43) hx hb d_MD_last_121 (by decide) ?_
                        exact ih43 x1 x2 x4 (x5 + 1) σ h _ _ hW _ (lv_sub hl [3, 4, 5, 1, 0] rfl)
                      · rw [if_neg c16] at h
                        refine lv_aload_n hx hb d_MD_last_92 rfl (lv_at hl 1 rfl) ?_
                        refine gf_MD_35 C hW.1 d_MD_last_93 ?_
                        refine lv_iload hx hb d_MD_last_96 (lv_at hl 5 rfl) ?_
                        obtain ⟨hin, h⟩ := gd_some h
                        refine alR_9 C hW.1 hin d_MD_last_98 ?_
                        refine lv_iload hx hb d_MD_last_99 (lv_at hl 4 rfl) ?_
                        refine lv_icmp_le (tgt := 114) hx hb d_MD_last_101 (by decide) (fun c17 => ?_) (fun c17 => ?_)
                        · rw [if_pos c17] at h
                          refine lv_iload hx hb d_MD_last_114 (lv_at hl 4 rfl) ?_
                          refine lv_istore (lv' := [(4, .int x4), (6, .int s0), (0, .ref (ad 0)), (1, .int x1), (2, .int x2), (5, .int x5)]) hx hb d_MD_last_116 hl (by decide) rfl (fun ls hl => ?_)
                          refine lv_iinc (v := x5 + 1) (lv' := [(5, .int (x5 + 1)), (4, .int x4), (6, .int s0), (0, .ref (ad 0)), (1, .int x1), (2, .int x2)]) hx hb d_MD_last_118 hl (k := 5) rfl rfl (by decide) rfl (fun ls hl => ?_)
                          refine lv_goto (tgt := 43) hx hb d_MD_last_121 (by decide) ?_
                          exact ih43 x1 x2 x4 (x5 + 1) σ h _ _ hW _ (lv_sub hl [3, 4, 5, 1, 0] rfl)
                        · rw [if_neg c17] at h
                          refine lv_aload_n hx hb d_MD_last_104 rfl (lv_at hl 1 rfl) ?_
                          refine gf_MD_35 C hW.1 d_MD_last_105 ?_
                          refine lv_iload hx hb d_MD_last_108 (lv_at hl 5 rfl) ?_
                          obtain ⟨hin, h⟩ := gd_some h
                          refine alR_9 C hW.1 hin d_MD_last_110 ?_
                          refine lv_goto (tgt := 116) hx hb d_MD_last_111 (by decide) ?_
                          obtain ⟨y18, e_y18, h⟩ := lt1_some h
                          refine W.eq (g2 := F0 m 116 ls (.int y18 :: [])) (by rw [e_y18]) ?_
                          refine lv_istore (lv' := [(4, .int y18), (6, .int s0), (0, .ref (ad 0)), (1, .int x1), (2, .int x2), (5, .int x5)]) hx hb d_MD_last_116 hl (by decide) rfl (fun ls hl => ?_)
                          refine lv_iinc (v := x5 + 1) (lv' := [(5, .int (x5 + 1)), (4, .int y18), (6, .int s0), (0, .ref (ad 0)), (1, .int x1), (2, .int x2)]) hx hb d_MD_last_118 hl (k := 5) rfl rfl (by decide) rfl (fun ls hl => ?_)
                          refine lv_goto (tgt := 43) hx hb d_MD_last_121 (by decide) ?_
                          exact ih43 x1 x2 y18 (x5 + 1) σ h _ _ hW _ (lv_sub hl [3, 4, 5, 1, 0] rfl)
                    exact k85 x1 x2 x4 x5 0 σ h _ _ hW _ (lv_sub hl [0, 1, 2, 3, 4] rfl)
                  · rw [if_neg c8] at h
                    refine lv_aload_n hx hb d_MD_last_69 rfl (lv_at hl 0 rfl) ?_
                    refine gf_MD_35 C hW.1 d_MD_last_70 ?_
                    refine lv_iload hx hb d_MD_last_73 (lv_at hl 4 rfl) ?_
                    obtain ⟨hin, h⟩ := gd_some h
                    refine alR_9 C hW.1 hin d_MD_last_75 ?_
                    refine lv_iload_n hx hb d_MD_last_76 rfl (lv_at hl 2 rfl) ?_
                    refine lv_icmp_gt (tgt := 84) hx hb d_MD_last_77 (by decide) (fun c9 => ?_) (fun c9 => ?_)
                    · rw [if_pos c9] at h
                      refine lv_iconst (v := 0) hx hb d_MD_last_84 (by decide) ?_
                      have k85 : ∀ (x1 : Int32) (x2 : Int32) (x4 : Int32) (x5 : Int32) (s0 : Int32) (σ : Sg) (h : C_MD_last_85 (L_MD_last_28 n28) (L_MD_last_43 (L_MD_last_28 n28) n43) x1 x2 x4 x5 s0 σ = some out) (H : Heap) (locs : List Loc) (hW : WR G ad cI cZ s σ H locs) (ls : Array Slot) (hl : lv_has ls 7 [(0, .ref (ad 0)), (1, .int x1), (2, .int x2), (4, .int x4), (5, .int x5)]), W p l e (headSpec wl_MD_last ({ frames := 2, cells := 0, slots := 0, locals := 49 } : Room)).room s m (([.ref (ad 0), .int a1] : List Value).toArray) below meth c H locs 0 0 (MQ below (QRi G ad cI cZ out) (([.ref (ad 0), .int a1] : List Value).toArray) s 0 0 (AR ad)) (F0 m 85 ls [.int s0]) := by
                        intro x1 x2 x4 x5 s0 σ h H locs hW ls hl
                        unfold C_MD_last_85 at h
                        refine lv_istore (lv' := [(6, .int s0), (0, .ref (ad 0)), (1, .int x1), (2, .int x2), (4, .int x4), (5, .int x5)]) hx hb d_MD_last_85 hl (by decide) rfl (fun ls hl => ?_)
                        refine lv_iload hx hb d_MD_last_87 (lv_at hl 0 rfl) ?_
                        refine lv_if_eq (tgt := 114) hx hb d_MD_last_89 (by decide) (fun c13 => ?_) (fun c13 => ?_)
                        · rw [if_pos c13] at h
                          refine lv_iload hx hb d_MD_last_114 (lv_at hl 4 rfl) ?_
                          refine lv_istore (lv' := [(4, .int x4), (6, .int s0), (0, .ref (ad 0)), (1, .int x1), (2, .int x2), (5, .int x5)]) hx hb d_MD_last_116 hl (by decide) rfl (fun ls hl => ?_)
                          refine lv_iinc (v := x5 + 1) (lv' := [(5, .int (x5 + 1)), (4, .int x4), (6, .int s0), (0, .ref (ad 0)), (1, .int x1), (2, .int x2)]) hx hb d_MD_last_118 hl (k := 5) rfl rfl (by decide) rfl (fun ls hl => ?_)
                          refine lv_goto (tgt := 43) hx hb d_MD_last_121 (by decide) ?_
                          exact ih43 x1 x2 x4 (x5 + 1) σ h _ _ hW _ (lv_sub hl [3, 4, 5, 1, 0] rfl)
                        · rw [if_neg c13] at h
                          refine lv_aload_n hx hb d_MD_last_92 rfl (lv_at hl 1 rfl) ?_
                          refine gf_MD_35 C hW.1 d_MD_last_93 ?_
                          refine lv_iload hx hb d_MD_last_96 (lv_at hl 5 rfl) ?_
                          obtain ⟨hin, h⟩ := gd_some h
                          refine alR_9 C hW.1 hin d_MD_last_98 ?_
                          refine lv_iload hx hb d_MD_last_99 (lv_at hl 4 rfl) ?_
                          refine lv_icmp_le (tgt := 114) hx hb d_MD_last_101 (by decide) (fun c14 => ?_) (fun c14 => ?_)
                          · rw [if_pos c14] at h
                            refine lv_iload hx hb d_MD_last_114 (lv_at hl 4 rfl) ?_
                            refine lv_istore (lv' := [(4, .int x4), (6, .int s0), (0, .ref (ad 0)), (1, .int x1), (2, .int x2), (5, .int x5)]) hx hb d_MD_last_116 hl (by decide) rfl (fun ls hl => ?_)
                            refine lv_iinc (v := x5 + 1) (lv' := [(5, .int (x5 + 1)), (4, .int x4), (6, .int s0), (0, .ref (ad 0)), (1, .int x1), (2, .int x2)]) hx hb d_MD_last_118 hl (k := 5) rfl rfl (by decide) rfl (fun ls hl => ?_)
                            refine lv_goto (tgt := 43) hx hb d_MD_last_121 (by decide) ?_
                            exact ih43 x1 x2 x4 (x5 + 1) σ h _ _ hW _ (lv_sub hl [3, 4, 5, 1, 0] rfl)
                          · rw [if_neg c14] at h
                            refine lv_aload_n hx hb d_MD_last_104 rfl (lv_at hl 1 rfl) ?_
                            refine gf_MD_35 C hW.1 d_MD_last_105 ?_
                            refine lv_iload hx hb d_MD_last_108 (lv_at hl 5 rfl) ?_
                            obtain ⟨hin, h⟩ := gd_some h
                            refine alR_9 C hW.1 hin d_MD_last_110 ?_
                            refine lv_goto (tgt := 116) hx hb d_MD_last_111 (by decide) ?_
                            obtain ⟨y15, e_y15, h⟩ := lt1_some h
                            refine W.eq (g2 := F0 m 116 ls (.int y15 :: [])) (by rw [e_y15]) ?_
                            refine lv_istore (lv' := [(4, .int y15), (6, .int s0), (0, .ref (ad 0)), (1, .int x1), (2, .int x2), (5, .int x5)]) hx hb d_MD_last_116 hl (by decide) rfl (fun ls hl => ?_)
                            refine lv_iinc (v := x5 + 1) (lv' := [(5, .int (x5 + 1)), (4, .int y15), (6, .int s0), (0, .ref (ad 0)), (1, .int x1), (2, .int x2)]) hx hb d_MD_last_118 hl (k := 5) rfl rfl (by decide) rfl (fun ls hl => ?_)
                            refine lv_goto (tgt := 43) hx hb d_MD_last_121 (by decide) ?_
                            exact ih43 x1 x2 y15 (x5 + 1) σ h _ _ hW _ (lv_sub hl [3, 4, 5, 1, 0] rfl)
                      exact k85 x1 x2 x4 x5 0 σ h _ _ hW _ (lv_sub hl [0, 1, 2, 3, 4] rfl)
                    · rw [if_neg c9] at h
                      refine lv_iconst (v := 1) hx hb d_MD_last_80 (by decide) ?_
                      refine lv_goto (tgt := 85) hx hb d_MD_last_81 (by decide) ?_
                      have k85 : ∀ (x1 : Int32) (x2 : Int32) (x4 : Int32) (x5 : Int32) (s0 : Int32) (σ : Sg) (h : C_MD_last_85 (L_MD_last_28 n28) (L_MD_last_43 (L_MD_last_28 n28) n43) x1 x2 x4 x5 s0 σ = some out) (H : Heap) (locs : List Loc) (hW : WR G ad cI cZ s σ H locs) (ls : Array Slot) (hl : lv_has ls 7 [(0, .ref (ad 0)), (1, .int x1), (2, .int x2), (4, .int x4), (5, .int x5)]), W p l e (headSpec wl_MD_last ({ frames := 2, cells := 0, slots := 0, locals := 49 } : Room)).room s m (([.ref (ad 0), .int a1] : List Value).toArray) below meth c H locs 0 0 (MQ below (QRi G ad cI cZ out) (([.ref (ad 0), .int a1] : List Value).toArray) s 0 0 (AR ad)) (F0 m 85 ls [.int s0]) := by
                        intro x1 x2 x4 x5 s0 σ h H locs hW ls hl
                        unfold C_MD_last_85 at h
                        refine lv_istore (lv' := [(6, .int s0), (0, .ref (ad 0)), (1, .int x1), (2, .int x2), (4, .int x4), (5, .int x5)]) hx hb d_MD_last_85 hl (by decide) rfl (fun ls hl => ?_)
                        refine lv_iload hx hb d_MD_last_87 (lv_at hl 0 rfl) ?_
                        refine lv_if_eq (tgt := 114) hx hb d_MD_last_89 (by decide) (fun c10 => ?_) (fun c10 => ?_)
                        · rw [if_pos c10] at h
                          refine lv_iload hx hb d_MD_last_114 (lv_at hl 4 rfl) ?_
                          refine lv_istore (lv' := [(4, .int x4), (6, .int s0), (0, .ref (ad 0)), (1, .int x1), (2, .int x2), (5, .int x5)]) hx hb d_MD_last_116 hl (by decide) rfl (fun ls hl => ?_)
                          refine lv_iinc (v := x5 + 1) (lv' := [(5, .int (x5 + 1)), (4, .int x4), (6, .int s0), (0, .ref (ad 0)), (1, .int x1), (2, .int x2)]) hx hb d_MD_last_118 hl (k := 5) rfl rfl (by decide) rfl (fun ls hl => ?_)
                          refine lv_goto (tgt := 43) hx hb d_MD_last_121 (by decide) ?_
                          exact ih43 x1 x2 x4 (x5 + 1) σ h _ _ hW _ (lv_sub hl [3, 4, 5, 1, 0] rfl)
                        · rw [if_neg c10] at h
                          refine lv_aload_n hx hb d_MD_last_92 rfl (lv_at hl 1 rfl) ?_
                          refine gf_MD_35 C hW.1 d_MD_last_93 ?_
                          refine lv_iload hx hb d_MD_last_96 (lv_at hl 5 rfl) ?_
                          obtain ⟨hin, h⟩ := gd_some h
                          refine alR_9 C hW.1 hin d_MD_last_98 ?_
                          refine lv_iload hx hb d_MD_last_99 (lv_at hl 4 rfl) ?_
                          refine lv_icmp_le (tgt := 114) hx hb d_MD_last_101 (by decide) (fun c11 => ?_) (fun c11 => ?_)
                          · rw [if_pos c11] at h
                            refine lv_iload hx hb d_MD_last_114 (lv_at hl 4 rfl) ?_
                            refine lv_istore (lv' := [(4, .int x4), (6, .int s0), (0, .ref (ad 0)), (1, .int x1), (2, .int x2), (5, .int x5)]) hx hb d_MD_last_116 hl (by decide) rfl (fun ls hl => ?_)
                            refine lv_iinc (v := x5 + 1) (lv' := [(5, .int (x5 + 1)), (4, .int x4), (6, .int s0), (0, .ref (ad 0)), (1, .int x1), (2, .int x2)]) hx hb d_MD_last_118 hl (k := 5) rfl rfl (by decide) rfl (fun ls hl => ?_)
                            refine lv_goto (tgt := 43) hx hb d_MD_last_121 (by decide) ?_
                            exact ih43 x1 x2 x4 (x5 + 1) σ h _ _ hW _ (lv_sub hl [3, 4, 5, 1, 0] rfl)
                          · rw [if_neg c11] at h
                            refine lv_aload_n hx hb d_MD_last_104 rfl (lv_at hl 1 rfl) ?_
                            refine gf_MD_35 C hW.1 d_MD_last_105 ?_
                            refine lv_iload hx hb d_MD_last_108 (lv_at hl 5 rfl) ?_
                            obtain ⟨hin, h⟩ := gd_some h
                            refine alR_9 C hW.1 hin d_MD_last_110 ?_
                            refine lv_goto (tgt := 116) hx hb d_MD_last_111 (by decide) ?_
                            obtain ⟨y12, e_y12, h⟩ := lt1_some h
                            refine W.eq (g2 := F0 m 116 ls (.int y12 :: [])) (by rw [e_y12]) ?_
                            refine lv_istore (lv' := [(4, .int y12), (6, .int s0), (0, .ref (ad 0)), (1, .int x1), (2, .int x2), (5, .int x5)]) hx hb d_MD_last_116 hl (by decide) rfl (fun ls hl => ?_)
                            refine lv_iinc (v := x5 + 1) (lv' := [(5, .int (x5 + 1)), (4, .int y12), (6, .int s0), (0, .ref (ad 0)), (1, .int x1), (2, .int x2)]) hx hb d_MD_last_118 hl (k := 5) rfl rfl (by decide) rfl (fun ls hl => ?_)
                            refine lv_goto (tgt := 43) hx hb d_MD_last_121 (by decide) ?_
                            exact ih43 x1 x2 y12 (x5 + 1) σ h _ _ hW _ (lv_sub hl [3, 4, 5, 1, 0] rfl)
                      exact k85 x1 x2 x4 x5 1 σ h _ _ hW _ (lv_sub hl [0, 1, 2, 3, 4] rfl)
            exact k43 _ x1 x2 ((-1)) 0 σ h _ _ hW _ (lv_sub hl [2, 3, 4, 1, 0] rfl)
    exact k28 _ a1 (r2.2 0 1) r4 r2.2 h _ _ hW _ (lv_sub hl [2, 3, 1, 0] rfl)
  · rw [if_pos c3] at h
    refine lv_iconst (v := 0) hx hb d_MD_last_14 (by decide) ?_
    exact W.iret hx hb hr (fun t ht _ => qr_i h ht hW) hW.2.2.2 d_MD_last_15
