abbrev wl_MD_used : List Cond := .code ⟨"PlaceMovesModel", "used", "(II)I"⟩ prog_9_method_39_code 3 (some FieldType.int) :: WG
set_option maxHeartbeats 4000000 in
set_option maxRecDepth 100000 in
theorem c_MD_used (l : Launch) (G : va_G) (ad : Nat → Nat) (cI cZ : ClassId) (hD : DR ad) (σ : Sg) (a1 : Int32) (a2 : Int32) (out : Int32 × Sg) (h : f_MD_used σ a1 a2 = some out) : Met l ⟨"PlaceMovesModel", "used", "(II)I"⟩ wl_MD_used ({ frames := 3, cells := 0, slots := 0, locals := 73 } : Room) (PcR G ad cI cZ σ [.ref (ad 0), .int a1, .int a2]) (QRi G ad cI cZ out) 0 0 (AR ad) := by
  refine Met.ofW (cc := prog_9_method_39_code) (maxL := 3) (ret := (some FieldType.int)) (by decide) rfl ?_
  intro p e s m args below meth c s₁ B hml hv
  obtain ⟨rfl, hP, hK⟩ := hv
  have hx := B.exec
  have hb := B.bytes
  have hr := B.returns
  have hts0 := atoms_spec (ws := wl_MD_used) B.pre
  have hts : ∀ w ∈ WG, w.before _ s = true := fun w hw => hts0 w (List.mem_cons_of_mem _ hw)
  have hown : s.vm.findClass "PlaceMovesModel" = some m.cls := findClass_of_methodNamed B.named
  have hlocks := B.notSynchronized
  have C : CX "PlaceMovesModel" prog_9_method_39_code p s m _ c G cI cZ := ⟨hx, hb, hown, hts, hK⟩
  have hl := lv_entry ([.ref (ad 0), .int a1, .int a2]) (n := 3) (Nat.le_of_ble_eq_true rfl)
  rw [lg_entry_eq]
  generalize (lg_sl ([.ref (ad 0), .int a1, .int a2]) ++ List.replicate (3 - (lg_sl ([.ref (ad 0), .int a1, .int a2])).length) Slot.unset).toArray = ls at hl ⊢
  have hl : lv_has ls 3 [(0, .ref (ad 0)), (1, .int a1), (2, .int a2)] := hl
  unfold f_MD_used at h
  have hW : WR G ad cI cZ s σ s.heap [] := ⟨hP, va_S.rf⟩
  refine lv_aload_n hx hb d_MD_used_0 rfl (lv_at hl 0 rfl) ?_
  refine lv_aload_n hx hb d_MD_used_1 rfl (lv_at hl 0 rfl) ?_
  refine lv_iload_n hx hb d_MD_used_2 rfl (lv_at hl 1 rfl) ?_
  obtain ⟨r1, g_r1, h⟩ := ob_some h
  refine cl_MD_93 (rest := [.ref (ad 0)]) C (hml.trans hl.1.symm) hW.1 g_r1 ⟨Nat.le_of_ble_eq_true rfl, Nat.le_of_ble_eq_true rfl⟩ (Nat.le_of_ble_eq_true rfl) d_MD_used_3 ⟨Nat.zero_le _, Nat.zero_le _⟩ ?_
  refine lv_iconst (v := 1) hx hb d_MD_used_6 (by decide) ?_
  refine lv_iconst (v := 1) hx hb d_MD_used_7 (by decide) ?_
  obtain ⟨r2, g_r2, h⟩ := ob_some h
  refine cl_MD_102 (rest := []) C hD (hml.trans hl.1.symm) hW g_r2 ⟨Nat.le_of_ble_eq_true rfl, Nat.le_of_ble_eq_true rfl⟩ (Nat.le_of_ble_eq_true rfl) d_MD_used_8 ⟨Nat.zero_le _, Nat.zero_le _⟩ (fun H locs hW => ?_)
  refine lv_if_eq (tgt := 23) hx hb d_MD_used_11 (by decide) (fun c3 => ?_) (fun c3 => ?_)
  · rw [if_pos c3] at h
    refine lv_iconst (v := 0) hx hb d_MD_used_23 (by decide) ?_
    exact W.iret hx hb hr (fun t ht _ => qr_i h ht hW) hW.2.2.2 d_MD_used_24
  · rw [if_neg c3] at h
    refine lv_aload_n hx hb d_MD_used_14 rfl (lv_at hl 0 rfl) ?_
    refine lv_iload_n hx hb d_MD_used_15 rfl (lv_at hl 1 rfl) ?_
    refine lv_iload_n hx hb d_MD_used_16 rfl (lv_at hl 2 rfl) ?_
    obtain ⟨r4, g_r4, h⟩ := ob_some h
    refine cl_MD_136 (rest := []) C (hml.trans hl.1.symm) hW.1 g_r4 ⟨Nat.le_of_ble_eq_true rfl, Nat.le_of_ble_eq_true rfl⟩ (Nat.le_of_ble_eq_true rfl) d_MD_used_17 ⟨Nat.zero_le _, Nat.zero_le _⟩ ?_
    refine lv_goto (tgt := 24) hx hb d_MD_used_20 (by decide) ?_
    exact W.iret hx hb hr (fun t ht _ => qr_i h ht hW) hW.2.2.2 d_MD_used_24
abbrev wl_MD_quiet : List Cond := .code ⟨"PlaceMovesModel", "quiet", "(III)V"⟩ prog_9_method_40_code 4 none :: WG
set_option maxHeartbeats 4000000 in
set_option maxRecDepth 100000 in
theorem c_MD_quiet (l : Launch) (G : va_G) (ad : Nat → Nat) (cI cZ : ClassId) (hD : DR ad) (σ : Sg) (a1 : Int32) (a2 : Int32) (a3 : Int32) (out : Sg) (h : f_MD_quiet σ a1 a2 a3 = some out) : Met l ⟨"PlaceMovesModel", "quiet", "(III)V"⟩ wl_MD_quiet ({ frames := 1, cells := 0, slots := 0, locals := 23 } : Room) (PcR G ad cI cZ σ [.ref (ad 0), .int a1, .int a2, .int a3]) (QRv G ad cI cZ out) 0 0 (AR ad) := by
  refine Met.ofW (cc := prog_9_method_40_code) (maxL := 4) (ret := none) (by decide) rfl ?_
  intro p e s m args below meth c s₁ B hml hv
  obtain ⟨rfl, hP, hK⟩ := hv
  have hx := B.exec
  have hb := B.bytes
  have hr := B.returns
  have hts0 := atoms_spec (ws := wl_MD_quiet) B.pre
  have hts : ∀ w ∈ WG, w.before _ s = true := fun w hw => hts0 w (List.mem_cons_of_mem _ hw)
  have hown : s.vm.findClass "PlaceMovesModel" = some m.cls := findClass_of_methodNamed B.named
  have hlocks := B.notSynchronized
  have C : CX "PlaceMovesModel" prog_9_method_40_code p s m _ c G cI cZ := ⟨hx, hb, hown, hts, hK⟩
  have hl := lv_entry ([.ref (ad 0), .int a1, .int a2, .int a3]) (n := 4) (Nat.le_of_ble_eq_true rfl)
  rw [lg_entry_eq]
  generalize (lg_sl ([.ref (ad 0), .int a1, .int a2, .int a3]) ++ List.replicate (4 - (lg_sl ([.ref (ad 0), .int a1, .int a2, .int a3])).length) Slot.unset).toArray = ls at hl ⊢
  have hl : lv_has ls 4 [(0, .ref (ad 0)), (1, .int a1), (2, .int a2), (3, .int a3)] := hl
  unfold f_MD_quiet at h
  have hW : WR G ad cI cZ s σ s.heap [] := ⟨hP, va_S.rf⟩
  refine lv_aload_n hx hb d_MD_quiet_0 rfl (lv_at hl 0 rfl) ?_
  refine lv_aload_n hx hb d_MD_quiet_1 rfl (lv_at hl 0 rfl) ?_
  refine lv_iload_n hx hb d_MD_quiet_2 rfl (lv_at hl 1 rfl) ?_
  obtain ⟨r1, g_r1, h⟩ := ob_some h
  refine cl_MD_93 (rest := [.ref (ad 0)]) C (hml.trans hl.1.symm) hW.1 g_r1 ⟨Nat.le_of_ble_eq_true rfl, Nat.le_of_ble_eq_true rfl⟩ (Nat.le_of_ble_eq_true rfl) d_MD_quiet_3 ⟨Nat.zero_le _, Nat.zero_le _⟩ ?_
  refine lv_iload_n hx hb d_MD_quiet_6 rfl (lv_at hl 2 rfl) ?_
  refine lv_if_lt (tgt := 19) hx hb d_MD_quiet_7 (by decide) (fun c2 => ?_) (fun c2 => ?_)
  · rw [if_pos c2] at h
    refine lv_iconst (v := 0) hx hb d_MD_quiet_19 (by decide) ?_
    refine lv_aload_n hx hb d_MD_quiet_20 rfl (lv_at hl 0 rfl) ?_
    refine gf_MD_142 C hW.1 d_MD_quiet_21 ?_
    refine lv_bipush (v := 20) hx hb d_MD_quiet_24 (by decide) ?_
    refine lv_icmp_ge (tgt := 33) hx hb d_MD_quiet_26 (by decide) (fun c30 => ?_) (fun c30 => ?_)
    · rw [if_pos c30] at h
      refine lv_iconst (v := 0) hx hb d_MD_quiet_33 (by decide) ?_
      have k34 : ∀ (x1 : Int32) (x2 : Int32) (x3 : Int32) (s0 : Int32) (s1 : Int32) (s2 : Int32) (σ : Sg) (h : C_MD_quiet_34 x1 x2 x3 s0 s1 s2 σ = some out) (H : Heap) (locs : List Loc) (hW : WR G ad cI cZ s σ H locs) (ls : Array Slot) (hl : lv_has ls 4 [(0, .ref (ad 0)), (1, .int x1), (2, .int x2), (3, .int x3)]), W p l e (headSpec wl_MD_quiet ({ frames := 1, cells := 0, slots := 0, locals := 23 } : Room)).room s m (([.ref (ad 0), .int a1, .int a2, .int a3] : List Value).toArray) below meth c H locs 0 0 (MQ below (QRv G ad cI cZ out) (([.ref (ad 0), .int a1, .int a2, .int a3] : List Value).toArray) s 0 0 (AR ad)) (F0 m 34 ls [.int s0, .int s1, .int s2, .ref (ad 0)]) := by
        intro x1 x2 x3 s0 s1 s2 σ h H locs hW ls hl
        unfold C_MD_quiet_34 at h
        obtain ⟨r37, g_r37, h⟩ := ob_some h
        refine cl_MD_102 (rest := []) C hD (hml.trans hl.1.symm) hW g_r37 ⟨Nat.le_of_ble_eq_true rfl, Nat.le_of_ble_eq_true rfl⟩ (Nat.le_of_ble_eq_true rfl) d_MD_quiet_34 ⟨Nat.zero_le _, Nat.zero_le _⟩ (fun H locs hW => ?_)
        refine lv_if_eq (tgt := 80) hx hb d_MD_quiet_37 (by decide) (fun c38 => ?_) (fun c38 => ?_)
        · rw [if_pos c38] at h
          exact W.vret hx hb hr (fun t ht _ => qr_v h ht hW) hW.2.2.2 d_MD_quiet_80
        · rw [if_neg c38] at h
          refine lv_aload_n hx hb d_MD_quiet_40 rfl (lv_at hl 0 rfl) ?_
          refine gf_MD_71 C hW.1 d_MD_quiet_41 ?_
          refine lv_aload_n hx hb d_MD_quiet_44 rfl (lv_at hl 0 rfl) ?_
          refine gf_MD_142 C hW.1 d_MD_quiet_45 ?_
          refine lv_iload_n hx hb d_MD_quiet_48 rfl (lv_at hl 1 rfl) ?_
          obtain ⟨hin, h⟩ := gd_some h
          refine asR_21 C hD hW hin d_MD_quiet_49 (fun H locs hW => ?_)
          obtain ⟨σ39, e_σ39, h⟩ := lt1_some h
          rw [← e_σ39] at hW
          refine lv_aload_n hx hb d_MD_quiet_50 rfl (lv_at hl 0 rfl) ?_
          refine gf_MD_74 C hW.1 d_MD_quiet_51 ?_
          refine lv_aload_n hx hb d_MD_quiet_54 rfl (lv_at hl 0 rfl) ?_
          refine gf_MD_142 C hW.1 d_MD_quiet_55 ?_
          refine lv_iload_n hx hb d_MD_quiet_58 rfl (lv_at hl 2 rfl) ?_
          obtain ⟨hin, h⟩ := gd_some h
          refine asR_22 C hD hW hin d_MD_quiet_59 (fun H locs hW => ?_)
          obtain ⟨σ40, e_σ40, h⟩ := lt1_some h
          rw [← e_σ40] at hW
          refine lv_aload_n hx hb d_MD_quiet_60 rfl (lv_at hl 0 rfl) ?_
          refine gf_MD_77 C hW.1 d_MD_quiet_61 ?_
          refine lv_aload_n hx hb d_MD_quiet_64 rfl (lv_at hl 0 rfl) ?_
          refine gf_MD_142 C hW.1 d_MD_quiet_65 ?_
          refine lv_iload_n hx hb d_MD_quiet_68 rfl (lv_at hl 3 rfl) ?_
          obtain ⟨hin, h⟩ := gd_some h
          refine asR_23 C hD hW hin d_MD_quiet_69 (fun H locs hW => ?_)
          obtain ⟨σ41, e_σ41, h⟩ := lt1_some h
          rw [← e_σ41] at hW
          refine lv_aload_n hx hb d_MD_quiet_70 rfl (lv_at hl 0 rfl) ?_
          refine lv_dup hx hb d_MD_quiet_71 rfl ?_
          refine gf_MD_142 C hW.1 d_MD_quiet_72 ?_
          refine lv_iconst (v := 1) hx hb d_MD_quiet_75 (by decide) ?_
          refine lv_iadd hx hb d_MD_quiet_76 ?_
          refine pf_MD_142 C hD hW d_MD_quiet_77 (fun H locs hW => ?_)
          obtain ⟨σ42, e_σ42, h⟩ := lt1_some h
          rw [← e_σ42] at hW
          exact W.vret hx hb hr (fun t ht _ => qr_v h ht hW) hW.2.2.2 d_MD_quiet_80
      exact k34 a1 a2 a3 0 0 r1 σ h _ _ hW _ (lv_sub hl [0, 1, 2, 3] rfl)
    · rw [if_neg c30] at h
      refine lv_iconst (v := 1) hx hb d_MD_quiet_29 (by decide) ?_
      refine lv_goto (tgt := 34) hx hb d_MD_quiet_30 (by decide) ?_
      have k34 : ∀ (x1 : Int32) (x2 : Int32) (x3 : Int32) (s0 : Int32) (s1 : Int32) (s2 : Int32) (σ : Sg) (h : C_MD_quiet_34 x1 x2 x3 s0 s1 s2 σ = some out) (H : Heap) (locs : List Loc) (hW : WR G ad cI cZ s σ H locs) (ls : Array Slot) (hl : lv_has ls 4 [(0, .ref (ad 0)), (1, .int x1), (2, .int x2), (3, .int x3)]), W p l e (headSpec wl_MD_quiet ({ frames := 1, cells := 0, slots := 0, locals := 23 } : Room)).room s m (([.ref (ad 0), .int a1, .int a2, .int a3] : List Value).toArray) below meth c H locs 0 0 (MQ below (QRv G ad cI cZ out) (([.ref (ad 0), .int a1, .int a2, .int a3] : List Value).toArray) s 0 0 (AR ad)) (F0 m 34 ls [.int s0, .int s1, .int s2, .ref (ad 0)]) := by
        intro x1 x2 x3 s0 s1 s2 σ h H locs hW ls hl
        unfold C_MD_quiet_34 at h
        obtain ⟨r31, g_r31, h⟩ := ob_some h
        refine cl_MD_102 (rest := []) C hD (hml.trans hl.1.symm) hW g_r31 ⟨Nat.le_of_ble_eq_true rfl, Nat.le_of_ble_eq_true rfl⟩ (Nat.le_of_ble_eq_true rfl) d_MD_quiet_34 ⟨Nat.zero_le _, Nat.zero_le _⟩ (fun H locs hW => ?_)
        refine lv_if_eq (tgt := 80) hx hb d_MD_quiet_37 (by decide) (fun c32 => ?_) (fun c32 => ?_)
        · rw [if_pos c32] at h
          exact W.vret hx hb hr (fun t ht _ => qr_v h ht hW) hW.2.2.2 d_MD_quiet_80
        · rw [if_neg c32] at h
          refine lv_aload_n hx hb d_MD_quiet_40 rfl (lv_at hl 0 rfl) ?_
          refine gf_MD_71 C hW.1 d_MD_quiet_41 ?_
          refine lv_aload_n hx hb d_MD_quiet_44 rfl (lv_at hl 0 rfl) ?_
          refine gf_MD_142 C hW.1 d_MD_quiet_45 ?_
          refine lv_iload_n hx hb d_MD_quiet_48 rfl (lv_at hl 1 rfl) ?_
          obtain ⟨hin, h⟩ := gd_some h
          refine asR_21 C hD hW hin d_MD_quiet_49 (fun H locs hW => ?_)
          obtain ⟨σ33, e_σ33, h⟩ := lt1_some h
          rw [← e_σ33] at hW
          refine lv_aload_n hx hb d_MD_quiet_50 rfl (lv_at hl 0 rfl) ?_
          refine gf_MD_74 C hW.1 d_MD_quiet_51 ?_
          refine lv_aload_n hx hb d_MD_quiet_54 rfl (lv_at hl 0 rfl) ?_
          refine gf_MD_142 C hW.1 d_MD_quiet_55 ?_
          refine lv_iload_n hx hb d_MD_quiet_58 rfl (lv_at hl 2 rfl) ?_
          obtain ⟨hin, h⟩ := gd_some h
          refine asR_22 C hD hW hin d_MD_quiet_59 (fun H locs hW => ?_)
          obtain ⟨σ34, e_σ34, h⟩ := lt1_some h
          rw [← e_σ34] at hW
          refine lv_aload_n hx hb d_MD_quiet_60 rfl (lv_at hl 0 rfl) ?_
          refine gf_MD_77 C hW.1 d_MD_quiet_61 ?_
          refine lv_aload_n hx hb d_MD_quiet_64 rfl (lv_at hl 0 rfl) ?_
          refine gf_MD_142 C hW.1 d_MD_quiet_65 ?_
          refine lv_iload_n hx hb d_MD_quiet_68 rfl (lv_at hl 3 rfl) ?_
          obtain ⟨hin, h⟩ := gd_some h
          refine asR_23 C hD hW hin d_MD_quiet_69 (fun H locs hW => ?_)
          obtain ⟨σ35, e_σ35, h⟩ := lt1_some h
          rw [← e_σ35] at hW
          refine lv_aload_n hx hb d_MD_quiet_70 rfl (lv_at hl 0 rfl) ?_
          refine lv_dup hx hb d_MD_quiet_71 rfl ?_
          refine gf_MD_142 C hW.1 d_MD_quiet_72 ?_
          refine lv_iconst (v := 1) hx hb d_MD_quiet_75 (by decide) ?_
          refine lv_iadd hx hb d_MD_quiet_76 ?_
          refine pf_MD_142 C hD hW d_MD_quiet_77 (fun H locs hW => ?_)
          obtain ⟨σ36, e_σ36, h⟩ := lt1_some h
          rw [← e_σ36] at hW
          exact W.vret hx hb hr (fun t ht _ => qr_v h ht hW) hW.2.2.2 d_MD_quiet_80
      exact k34 a1 a2 a3 1 0 r1 σ h _ _ hW _ (lv_sub hl [0, 1, 2, 3] rfl)
  · rw [if_neg c2] at h
    refine lv_iload_n hx hb d_MD_quiet_10 rfl (lv_at hl 3 rfl) ?_
    refine lv_iload_n hx hb d_MD_quiet_11 rfl (lv_at hl 2 rfl) ?_
    refine lv_icmp_lt (tgt := 19) hx hb d_MD_quiet_12 (by decide) (fun c3 => ?_) (fun c3 => ?_)
    · rw [if_pos c3] at h
      refine lv_iconst (v := 0) hx hb d_MD_quiet_19 (by decide) ?_
      refine lv_aload_n hx hb d_MD_quiet_20 rfl (lv_at hl 0 rfl) ?_
      refine gf_MD_142 C hW.1 d_MD_quiet_21 ?_
      refine lv_bipush (v := 20) hx hb d_MD_quiet_24 (by decide) ?_
      refine lv_icmp_ge (tgt := 33) hx hb d_MD_quiet_26 (by decide) (fun c17 => ?_) (fun c17 => ?_)
      · rw [if_pos c17] at h
        refine lv_iconst (v := 0) hx hb d_MD_quiet_33 (by decide) ?_
        have k34 : ∀ (x1 : Int32) (x2 : Int32) (x3 : Int32) (s0 : Int32) (s1 : Int32) (s2 : Int32) (σ : Sg) (h : C_MD_quiet_34 x1 x2 x3 s0 s1 s2 σ = some out) (H : Heap) (locs : List Loc) (hW : WR G ad cI cZ s σ H locs) (ls : Array Slot) (hl : lv_has ls 4 [(0, .ref (ad 0)), (1, .int x1), (2, .int x2), (3, .int x3)]), W p l e (headSpec wl_MD_quiet ({ frames := 1, cells := 0, slots := 0, locals := 23 } : Room)).room s m (([.ref (ad 0), .int a1, .int a2, .int a3] : List Value).toArray) below meth c H locs 0 0 (MQ below (QRv G ad cI cZ out) (([.ref (ad 0), .int a1, .int a2, .int a3] : List Value).toArray) s 0 0 (AR ad)) (F0 m 34 ls [.int s0, .int s1, .int s2, .ref (ad 0)]) := by
          intro x1 x2 x3 s0 s1 s2 σ h H locs hW ls hl
          unfold C_MD_quiet_34 at h
          obtain ⟨r24, g_r24, h⟩ := ob_some h
          refine cl_MD_102 (rest := []) C hD (hml.trans hl.1.symm) hW g_r24 ⟨Nat.le_of_ble_eq_true rfl, Nat.le_of_ble_eq_true rfl⟩ (Nat.le_of_ble_eq_true rfl) d_MD_quiet_34 ⟨Nat.zero_le _, Nat.zero_le _⟩ (fun H locs hW => ?_)
          refine lv_if_eq (tgt := 80) hx hb d_MD_quiet_37 (by decide) (fun c25 => ?_) (fun c25 => ?_)
          · rw [if_pos c25] at h
            exact W.vret hx hb hr (fun t ht _ => qr_v h ht hW) hW.2.2.2 d_MD_quiet_80
          · rw [if_neg c25] at h
            refine lv_aload_n hx hb d_MD_quiet_40 rfl (lv_at hl 0 rfl) ?_
            refine gf_MD_71 C hW.1 d_MD_quiet_41 ?_
            refine lv_aload_n hx hb d_MD_quiet_44 rfl (lv_at hl 0 rfl) ?_
            refine gf_MD_142 C hW.1 d_MD_quiet_45 ?_
            refine lv_iload_n hx hb d_MD_quiet_48 rfl (lv_at hl 1 rfl) ?_
            obtain ⟨hin, h⟩ := gd_some h
            refine asR_21 C hD hW hin d_MD_quiet_49 (fun H locs hW => ?_)
            obtain ⟨σ26, e_σ26, h⟩ := lt1_some h
            rw [← e_σ26] at hW
            refine lv_aload_n hx hb d_MD_quiet_50 rfl (lv_at hl 0 rfl) ?_
            refine gf_MD_74 C hW.1 d_MD_quiet_51 ?_
            refine lv_aload_n hx hb d_MD_quiet_54 rfl (lv_at hl 0 rfl) ?_
            refine gf_MD_142 C hW.1 d_MD_quiet_55 ?_
            refine lv_iload_n hx hb d_MD_quiet_58 rfl (lv_at hl 2 rfl) ?_
            obtain ⟨hin, h⟩ := gd_some h
            refine asR_22 C hD hW hin d_MD_quiet_59 (fun H locs hW => ?_)
            obtain ⟨σ27, e_σ27, h⟩ := lt1_some h
            rw [← e_σ27] at hW
            refine lv_aload_n hx hb d_MD_quiet_60 rfl (lv_at hl 0 rfl) ?_
            refine gf_MD_77 C hW.1 d_MD_quiet_61 ?_
            refine lv_aload_n hx hb d_MD_quiet_64 rfl (lv_at hl 0 rfl) ?_
            refine gf_MD_142 C hW.1 d_MD_quiet_65 ?_
            refine lv_iload_n hx hb d_MD_quiet_68 rfl (lv_at hl 3 rfl) ?_
            obtain ⟨hin, h⟩ := gd_some h
            refine asR_23 C hD hW hin d_MD_quiet_69 (fun H locs hW => ?_)
            obtain ⟨σ28, e_σ28, h⟩ := lt1_some h
            rw [← e_σ28] at hW
            refine lv_aload_n hx hb d_MD_quiet_70 rfl (lv_at hl 0 rfl) ?_
            refine lv_dup hx hb d_MD_quiet_71 rfl ?_
            refine gf_MD_142 C hW.1 d_MD_quiet_72 ?_
            refine lv_iconst (v := 1) hx hb d_MD_quiet_75 (by decide) ?_
            refine lv_iadd hx hb d_MD_quiet_76 ?_
            refine pf_MD_142 C hD hW d_MD_quiet_77 (fun H locs hW => ?_)
            obtain ⟨σ29, e_σ29, h⟩ := lt1_some h
            rw [← e_σ29] at hW
            exact W.vret hx hb hr (fun t ht _ => qr_v h ht hW) hW.2.2.2 d_MD_quiet_80
        exact k34 a1 a2 a3 0 0 r1 σ h _ _ hW _ (lv_sub hl [0, 1, 2, 3] rfl)
      · rw [if_neg c17] at h
        refine lv_iconst (v := 1) hx hb d_MD_quiet_29 (by decide) ?_
        refine lv_goto (tgt := 34) hx hb d_MD_quiet_30 (by decide) ?_
        have k34 : ∀ (x1 : Int32) (x2 : Int32) (x3 : Int32) (s0 : Int32) (s1 : Int32) (s2 : Int32) (σ : Sg) (h : C_MD_quiet_34 x1 x2 x3 s0 s1 s2 σ = some out) (H : Heap) (locs : List Loc) (hW : WR G ad cI cZ s σ H locs) (ls : Array Slot) (hl : lv_has ls 4 [(0, .ref (ad 0)), (1, .int x1), (2, .int x2), (3, .int x3)]), W p l e (headSpec wl_MD_quiet ({ frames := 1, cells := 0, slots := 0, locals := 23 } : Room)).room s m (([.ref (ad 0), .int a1, .int a2, .int a3] : List Value).toArray) below meth c H locs 0 0 (MQ below (QRv G ad cI cZ out) (([.ref (ad 0), .int a1, .int a2, .int a3] : List Value).toArray) s 0 0 (AR ad)) (F0 m 34 ls [.int s0, .int s1, .int s2, .ref (ad 0)]) := by
          intro x1 x2 x3 s0 s1 s2 σ h H locs hW ls hl
          unfold C_MD_quiet_34 at h
          obtain ⟨r18, g_r18, h⟩ := ob_some h
          refine cl_MD_102 (rest := []) C hD (hml.trans hl.1.symm) hW g_r18 ⟨Nat.le_of_ble_eq_true rfl, Nat.le_of_ble_eq_true rfl⟩ (Nat.le_of_ble_eq_true rfl) d_MD_quiet_34 ⟨Nat.zero_le _, Nat.zero_le _⟩ (fun H locs hW => ?_)
          refine lv_if_eq (tgt := 80) hx hb d_MD_quiet_37 (by decide) (fun c19 => ?_) (fun c19 => ?_)
          · rw [if_pos c19] at h
            exact W.vret hx hb hr (fun t ht _ => qr_v h ht hW) hW.2.2.2 d_MD_quiet_80
          · rw [if_neg c19] at h
            refine lv_aload_n hx hb d_MD_quiet_40 rfl (lv_at hl 0 rfl) ?_
            refine gf_MD_71 C hW.1 d_MD_quiet_41 ?_
            refine lv_aload_n hx hb d_MD_quiet_44 rfl (lv_at hl 0 rfl) ?_
            refine gf_MD_142 C hW.1 d_MD_quiet_45 ?_
            refine lv_iload_n hx hb d_MD_quiet_48 rfl (lv_at hl 1 rfl) ?_
            obtain ⟨hin, h⟩ := gd_some h
            refine asR_21 C hD hW hin d_MD_quiet_49 (fun H locs hW => ?_)
            obtain ⟨σ20, e_σ20, h⟩ := lt1_some h
            rw [← e_σ20] at hW
            refine lv_aload_n hx hb d_MD_quiet_50 rfl (lv_at hl 0 rfl) ?_
            refine gf_MD_74 C hW.1 d_MD_quiet_51 ?_
            refine lv_aload_n hx hb d_MD_quiet_54 rfl (lv_at hl 0 rfl) ?_
            refine gf_MD_142 C hW.1 d_MD_quiet_55 ?_
            refine lv_iload_n hx hb d_MD_quiet_58 rfl (lv_at hl 2 rfl) ?_
            obtain ⟨hin, h⟩ := gd_some h
            refine asR_22 C hD hW hin d_MD_quiet_59 (fun H locs hW => ?_)
            obtain ⟨σ21, e_σ21, h⟩ := lt1_some h
            rw [← e_σ21] at hW
            refine lv_aload_n hx hb d_MD_quiet_60 rfl (lv_at hl 0 rfl) ?_
            refine gf_MD_77 C hW.1 d_MD_quiet_61 ?_
            refine lv_aload_n hx hb d_MD_quiet_64 rfl (lv_at hl 0 rfl) ?_
            refine gf_MD_142 C hW.1 d_MD_quiet_65 ?_
            refine lv_iload_n hx hb d_MD_quiet_68 rfl (lv_at hl 3 rfl) ?_
            obtain ⟨hin, h⟩ := gd_some h
            refine asR_23 C hD hW hin d_MD_quiet_69 (fun H locs hW => ?_)
            obtain ⟨σ22, e_σ22, h⟩ := lt1_some h
            rw [← e_σ22] at hW
            refine lv_aload_n hx hb d_MD_quiet_70 rfl (lv_at hl 0 rfl) ?_
            refine lv_dup hx hb d_MD_quiet_71 rfl ?_
            refine gf_MD_142 C hW.1 d_MD_quiet_72 ?_
            refine lv_iconst (v := 1) hx hb d_MD_quiet_75 (by decide) ?_
            refine lv_iadd hx hb d_MD_quiet_76 ?_
            refine pf_MD_142 C hD hW d_MD_quiet_77 (fun H locs hW => ?_)
            obtain ⟨σ23, e_σ23, h⟩ := lt1_some h
            rw [← e_σ23] at hW
            exact W.vret hx hb hr (fun t ht _ => qr_v h ht hW) hW.2.2.2 d_MD_quiet_80
        exact k34 a1 a2 a3 1 0 r1 σ h _ _ hW _ (lv_sub hl [0, 1, 2, 3] rfl)
    · rw [if_neg c3] at h
      refine lv_iconst (v := 1) hx hb d_MD_quiet_15 (by decide) ?_
      refine lv_goto (tgt := 20) hx hb d_MD_quiet_16 (by decide) ?_
      refine lv_aload_n hx hb d_MD_quiet_20 rfl (lv_at hl 0 rfl) ?_
      refine gf_MD_142 C hW.1 d_MD_quiet_21 ?_
      refine lv_bipush (v := 20) hx hb d_MD_quiet_24 (by decide) ?_
      refine lv_icmp_ge (tgt := 33) hx hb d_MD_quiet_26 (by decide) (fun c4 => ?_) (fun c4 => ?_)
      · rw [if_pos c4] at h
        refine lv_iconst (v := 0) hx hb d_MD_quiet_33 (by decide) ?_
        have k34 : ∀ (x1 : Int32) (x2 : Int32) (x3 : Int32) (s0 : Int32) (s1 : Int32) (s2 : Int32) (σ : Sg) (h : C_MD_quiet_34 x1 x2 x3 s0 s1 s2 σ = some out) (H : Heap) (locs : List Loc) (hW : WR G ad cI cZ s σ H locs) (ls : Array Slot) (hl : lv_has ls 4 [(0, .ref (ad 0)), (1, .int x1), (2, .int x2), (3, .int x3)]), W p l e (headSpec wl_MD_quiet ({ frames := 1, cells := 0, slots := 0, locals := 23 } : Room)).room s m (([.ref (ad 0), .int a1, .int a2, .int a3] : List Value).toArray) below meth c H locs 0 0 (MQ below (QRv G ad cI cZ out) (([.ref (ad 0), .int a1, .int a2, .int a3] : List Value).toArray) s 0 0 (AR ad)) (F0 m 34 ls [.int s0, .int s1, .int s2, .ref (ad 0)]) := by
          intro x1 x2 x3 s0 s1 s2 σ h H locs hW ls hl
          unfold C_MD_quiet_34 at h
          obtain ⟨r11, g_r11, h⟩ := ob_some h
          refine cl_MD_102 (rest := []) C hD (hml.trans hl.1.symm) hW g_r11 ⟨Nat.le_of_ble_eq_true rfl, Nat.le_of_ble_eq_true rfl⟩ (Nat.le_of_ble_eq_true rfl) d_MD_quiet_34 ⟨Nat.zero_le _, Nat.zero_le _⟩ (fun H locs hW => ?_)
          refine lv_if_eq (tgt := 80) hx hb d_MD_quiet_37 (by decide) (fun c12 => ?_) (fun c12 => ?_)
          · rw [if_pos c12] at h
            exact W.vret hx hb hr (fun t ht _ => qr_v h ht hW) hW.2.2.2 d_MD_quiet_80
          · rw [if_neg c12] at h
            refine lv_aload_n hx hb d_MD_quiet_40 rfl (lv_at hl 0 rfl) ?_
            refine gf_MD_71 C hW.1 d_MD_quiet_41 ?_
            refine lv_aload_n hx hb d_MD_quiet_44 rfl (lv_at hl 0 rfl) ?_
            refine gf_MD_142 C hW.1 d_MD_quiet_45 ?_
            refine lv_iload_n hx hb d_MD_quiet_48 rfl (lv_at hl 1 rfl) ?_
            obtain ⟨hin, h⟩ := gd_some h
            refine asR_21 C hD hW hin d_MD_quiet_49 (fun H locs hW => ?_)
            obtain ⟨σ13, e_σ13, h⟩ := lt1_some h
            rw [← e_σ13] at hW
            refine lv_aload_n hx hb d_MD_quiet_50 rfl (lv_at hl 0 rfl) ?_
            refine gf_MD_74 C hW.1 d_MD_quiet_51 ?_
            refine lv_aload_n hx hb d_MD_quiet_54 rfl (lv_at hl 0 rfl) ?_
            refine gf_MD_142 C hW.1 d_MD_quiet_55 ?_
            refine lv_iload_n hx hb d_MD_quiet_58 rfl (lv_at hl 2 rfl) ?_
            obtain ⟨hin, h⟩ := gd_some h
            refine asR_22 C hD hW hin d_MD_quiet_59 (fun H locs hW => ?_)
            obtain ⟨σ14, e_σ14, h⟩ := lt1_some h
            rw [← e_σ14] at hW
            refine lv_aload_n hx hb d_MD_quiet_60 rfl (lv_at hl 0 rfl) ?_
            refine gf_MD_77 C hW.1 d_MD_quiet_61 ?_
            refine lv_aload_n hx hb d_MD_quiet_64 rfl (lv_at hl 0 rfl) ?_
            refine gf_MD_142 C hW.1 d_MD_quiet_65 ?_
            refine lv_iload_n hx hb d_MD_quiet_68 rfl (lv_at hl 3 rfl) ?_
            obtain ⟨hin, h⟩ := gd_some h
            refine asR_23 C hD hW hin d_MD_quiet_69 (fun H locs hW => ?_)
            obtain ⟨σ15, e_σ15, h⟩ := lt1_some h
            rw [← e_σ15] at hW
            refine lv_aload_n hx hb d_MD_quiet_70 rfl (lv_at hl 0 rfl) ?_
            refine lv_dup hx hb d_MD_quiet_71 rfl ?_
            refine gf_MD_142 C hW.1 d_MD_quiet_72 ?_
            refine lv_iconst (v := 1) hx hb d_MD_quiet_75 (by decide) ?_
            refine lv_iadd hx hb d_MD_quiet_76 ?_
            refine pf_MD_142 C hD hW d_MD_quiet_77 (fun H locs hW => ?_)
            obtain ⟨σ16, e_σ16, h⟩ := lt1_some h
            rw [← e_σ16] at hW
            exact W.vret hx hb hr (fun t ht _ => qr_v h ht hW) hW.2.2.2 d_MD_quiet_80
        exact k34 a1 a2 a3 0 1 r1 σ h _ _ hW _ (lv_sub hl [0, 1, 2, 3] rfl)
      · rw [if_neg c4] at h
        refine lv_iconst (v := 1) hx hb d_MD_quiet_29 (by decide) ?_
        refine lv_goto (tgt := 34) hx hb d_MD_quiet_30 (by decide) ?_
        have k34 : ∀ (x1 : Int32) (x2 : Int32) (x3 : Int32) (s0 : Int32) (s1 : Int32) (s2 : Int32) (σ : Sg) (h : C_MD_quiet_34 x1 x2 x3 s0 s1 s2 σ = some out) (H : Heap) (locs : List Loc) (hW : WR G ad cI cZ s σ H locs) (ls : Array Slot) (hl : lv_has ls 4 [(0, .ref (ad 0)), (1, .int x1), (2, .int x2), (3, .int x3)]), W p l e (headSpec wl_MD_quiet ({ frames := 1, cells := 0, slots := 0, locals := 23 } : Room)).room s m (([.ref (ad 0), .int a1, .int a2, .int a3] : List Value).toArray) below meth c H locs 0 0 (MQ below (QRv G ad cI cZ out) (([.ref (ad 0), .int a1, .int a2, .int a3] : List Value).toArray) s 0 0 (AR ad)) (F0 m 34 ls [.int s0, .int s1, .int s2, .ref (ad 0)]) := by
          intro x1 x2 x3 s0 s1 s2 σ h H locs hW ls hl
          unfold C_MD_quiet_34 at h
          obtain ⟨r5, g_r5, h⟩ := ob_some h
          refine cl_MD_102 (rest := []) C hD (hml.trans hl.1.symm) hW g_r5 ⟨Nat.le_of_ble_eq_true rfl, Nat.le_of_ble_eq_true rfl⟩ (Nat.le_of_ble_eq_true rfl) d_MD_quiet_34 ⟨Nat.zero_le _, Nat.zero_le _⟩ (fun H locs hW => ?_)
          refine lv_if_eq (tgt := 80) hx hb d_MD_quiet_37 (by decide) (fun c6 => ?_) (fun c6 => ?_)
          · rw [if_pos c6] at h
            exact W.vret hx hb hr (fun t ht _ => qr_v h ht hW) hW.2.2.2 d_MD_quiet_80
          · rw [if_neg c6] at h
            refine lv_aload_n hx hb d_MD_quiet_40 rfl (lv_at hl 0 rfl) ?_
            refine gf_MD_71 C hW.1 d_MD_quiet_41 ?_
            refine lv_aload_n hx hb d_MD_quiet_44 rfl (lv_at hl 0 rfl) ?_
            refine gf_MD_142 C hW.1 d_MD_quiet_45 ?_
            refine lv_iload_n hx hb d_MD_quiet_48 rfl (lv_at hl 1 rfl) ?_
            obtain ⟨hin, h⟩ := gd_some h
            refine asR_21 C hD hW hin d_MD_quiet_49 (fun H locs hW => ?_)
            obtain ⟨σ7, e_σ7, h⟩ := lt1_some h
            rw [← e_σ7] at hW
            refine lv_aload_n hx hb d_MD_quiet_50 rfl (lv_at hl 0 rfl) ?_
            refine gf_MD_74 C hW.1 d_MD_quiet_51 ?_
            refine lv_aload_n hx hb d_MD_quiet_54 rfl (lv_at hl 0 rfl) ?_
            refine gf_MD_142 C hW.1 d_MD_quiet_55 ?_
            refine lv_iload_n hx hb d_MD_quiet_58 rfl (lv_at hl 2 rfl) ?_
            obtain ⟨hin, h⟩ := gd_some h
            refine asR_22 C hD hW hin d_MD_quiet_59 (fun H locs hW => ?_)
            obtain ⟨σ8, e_σ8, h⟩ := lt1_some h
            rw [← e_σ8] at hW
            refine lv_aload_n hx hb d_MD_quiet_60 rfl (lv_at hl 0 rfl) ?_
            refine gf_MD_77 C hW.1 d_MD_quiet_61 ?_
            refine lv_aload_n hx hb d_MD_quiet_64 rfl (lv_at hl 0 rfl) ?_
            refine gf_MD_142 C hW.1 d_MD_quiet_65 ?_
            refine lv_iload_n hx hb d_MD_quiet_68 rfl (lv_at hl 3 rfl) ?_
            obtain ⟨hin, h⟩ := gd_some h
            refine asR_23 C hD hW hin d_MD_quiet_69 (fun H locs hW => ?_)
            obtain ⟨σ9, e_σ9, h⟩ := lt1_some h
            rw [← e_σ9] at hW
            refine lv_aload_n hx hb d_MD_quiet_70 rfl (lv_at hl 0 rfl) ?_
            refine lv_dup hx hb d_MD_quiet_71 rfl ?_
            refine gf_MD_142 C hW.1 d_MD_quiet_72 ?_
            refine lv_iconst (v := 1) hx hb d_MD_quiet_75 (by decide) ?_
            refine lv_iadd hx hb d_MD_quiet_76 ?_
            refine pf_MD_142 C hD hW d_MD_quiet_77 (fun H locs hW => ?_)
            obtain ⟨σ10, e_σ10, h⟩ := lt1_some h
            rw [← e_σ10] at hW
            exact W.vret hx hb hr (fun t ht _ => qr_v h ht hW) hW.2.2.2 d_MD_quiet_80
        exact k34 a1 a2 a3 1 1 r1 σ h _ _ hW _ (lv_sub hl [0, 1, 2, 3] rfl)
abbrev wl_MD_count : List Cond := .code ⟨"PlaceMovesModel", "count", "(I)I"⟩ prog_9_method_41_code 4 (some FieldType.int) :: WG
set_option maxHeartbeats 4000000 in
set_option maxRecDepth 100000 in
theorem c_MD_count (l : Launch) (G : va_G) (ad : Nat → Nat) (cI cZ : ClassId) (hD : DR ad) (σ : Sg) (a1 : Int32) (out : Int32 × Sg) (h : f_MD_count σ a1 = some out) : Met l ⟨"PlaceMovesModel", "count", "(I)I"⟩ wl_MD_count ({ frames := 1, cells := 0, slots := 0, locals := 23 } : Room) (PcR G ad cI cZ σ [.ref (ad 0), .int a1]) (QRi G ad cI cZ out) 0 0 (AR ad) := by
  refine Met.ofW (cc := prog_9_method_41_code) (maxL := 4) (ret := (some FieldType.int)) (by decide) rfl ?_
  intro p e s m args below meth c s₁ B hml hv
  obtain ⟨rfl, hP, hK⟩ := hv
  have hx := B.exec
  have hb := B.bytes
  have hr := B.returns
  have hts0 := atoms_spec (ws := wl_MD_count) B.pre
  have hts : ∀ w ∈ WG, w.before _ s = true := fun w hw => hts0 w (List.mem_cons_of_mem _ hw)
  have hown : s.vm.findClass "PlaceMovesModel" = some m.cls := findClass_of_methodNamed B.named
  have hlocks := B.notSynchronized
  have C : CX "PlaceMovesModel" prog_9_method_41_code p s m _ c G cI cZ := ⟨hx, hb, hown, hts, hK⟩
  have hl := lv_entry ([.ref (ad 0), .int a1]) (n := 4) (Nat.le_of_ble_eq_true rfl)
  rw [lg_entry_eq]
  generalize (lg_sl ([.ref (ad 0), .int a1]) ++ List.replicate (4 - (lg_sl ([.ref (ad 0), .int a1])).length) Slot.unset).toArray = ls at hl ⊢
  have hl : lv_has ls 4 [(0, .ref (ad 0)), (1, .int a1)] := hl
  unfold f_MD_count at h
  have hW : WR G ad cI cZ s σ s.heap [] := ⟨hP, va_S.rf⟩
  refine lv_aload_n hx hb d_MD_count_0 rfl (lv_at hl 0 rfl) ?_
  refine lv_iload_n hx hb d_MD_count_1 rfl (lv_at hl 1 rfl) ?_
  refine lv_iconst (v := 0) hx hb d_MD_count_2 (by decide) ?_
  refine lv_iconst (v := 5) hx hb d_MD_count_3 (by decide) ?_
  obtain ⟨r1, g_r1, h⟩ := ob_some h
  refine cl_MD_98 (rest := [.ref (ad 0)]) C (hml.trans hl.1.symm) hW.1 g_r1 ⟨Nat.le_of_ble_eq_true rfl, Nat.le_of_ble_eq_true rfl⟩ (Nat.le_of_ble_eq_true rfl) d_MD_count_4 ⟨Nat.zero_le _, Nat.zero_le _⟩ ?_
  refine lv_iconst (v := 1) hx hb d_MD_count_7 (by decide) ?_
  refine lv_iconst (v := 1) hx hb d_MD_count_8 (by decide) ?_
  obtain ⟨r2, g_r2, h⟩ := ob_some h
  refine cl_MD_102 (rest := []) C hD (hml.trans hl.1.symm) hW g_r2 ⟨Nat.le_of_ble_eq_true rfl, Nat.le_of_ble_eq_true rfl⟩ (Nat.le_of_ble_eq_true rfl) d_MD_count_9 ⟨Nat.zero_le _, Nat.zero_le _⟩ (fun H locs hW => ?_)
  refine lv_if_ne (tgt := 17) hx hb d_MD_count_12 (by decide) (fun c3 => ?_) (fun c3 => ?_)
  · rw [if_neg c3] at h
    refine lv_iconst (v := 0) hx hb d_MD_count_17 (by decide) ?_
    refine lv_istore_n (lv' := [(2, .int 0), (0, .ref (ad 0)), (1, .int a1)]) hx hb d_MD_count_18 rfl hl (by decide) rfl (fun ls hl => ?_)
    refine lv_iconst (v := 0) hx hb d_MD_count_19 (by decide) ?_
    refine lv_istore_n (lv' := [(3, .int 0), (2, .int 0), (0, .ref (ad 0)), (1, .int a1)]) hx hb d_MD_count_20 rfl hl (by decide) rfl (fun ls hl => ?_)
    have k21 : ∀ (n21 : Nat) (x1 : Int32) (x2 : Int32) (x3 : Int32) (σ : Sg) (h : L_MD_count_21 n21 x1 x2 x3 σ = some out) (H : Heap) (locs : List Loc) (hW : WR G ad cI cZ s σ H locs) (ls : Array Slot) (hl : lv_has ls 4 [(0, .ref (ad 0)), (1, .int x1), (2, .int x2), (3, .int x3)]), W p l e (headSpec wl_MD_count ({ frames := 1, cells := 0, slots := 0, locals := 23 } : Room)).room s m (([.ref (ad 0), .int a1] : List Value).toArray) below meth c H locs 0 0 (MQ below (QRi G ad cI cZ out) (([.ref (ad 0), .int a1] : List Value).toArray) s 0 0 (AR ad)) (F0 m 21 ls []) := by
      intro n21
      induction n21 with
      | zero =>
        intro x1 x2 x3 σ h
        exact absurd h (by intro z; cases z)
      | succ n21 ih21 =>
        intro x1 x2 x3 σ h H locs hW ls hl
        replace h : B_MD_count_21 (L_MD_count_21 n21) x1 x2 x3 σ = some out := h
        unfold B_MD_count_21 at h
        refine lv_iload_n hx hb d_MD_count_21 rfl (lv_at hl 3 rfl) ?_
        refine lv_aload_n hx hb d_MD_count_22 rfl (lv_at hl 0 rfl) ?_
        refine gf_MD_90 C hW.1 d_MD_count_23 ?_
        refine lv_icmp_ge (tgt := 44) hx hb d_MD_count_26 (by decide) (fun c4 => ?_) (fun c4 => ?_)
        · rw [if_pos c4] at h
          refine lv_iload_n hx hb d_MD_count_44 rfl (lv_at hl 1 rfl) ?_
          by_cases e6 : x1 = 0
          · rw [if_pos e6] at h
            refine lv_tableIn (off := 35) (tgt := 80) hx hb d_MD_count_45 (by rw [e6]; decide) (by rw [e6]; decide) (by rw [e6]; decide) (by decide) ?_
            refine lv_aload_n hx hb d_MD_count_80 rfl (lv_at hl 0 rfl) ?_
            refine gf_MD_87 C hW.1 d_MD_count_81 ?_
            exact W.iret hx hb hr (fun t ht _ => qr_i h ht hW) hW.2.2.2 d_MD_count_84
          · rw [if_neg e6] at h
            by_cases e7 : x1 = 1
            · rw [if_pos e7] at h
              refine lv_tableIn (off := 40) (tgt := 85) hx hb d_MD_count_45 (by rw [e7]; decide) (by rw [e7]; decide) (by rw [e7]; decide) (by decide) ?_
              refine lv_aload_n hx hb d_MD_count_85 rfl (lv_at hl 0 rfl) ?_
              refine gf_MD_90 C hW.1 d_MD_count_86 ?_
              exact W.iret hx hb hr (fun t ht _ => qr_i h ht hW) hW.2.2.2 d_MD_count_89
            · rw [if_neg e7] at h
              by_cases e8 : x1 = 2
              · rw [if_pos e8] at h
                refine lv_tableIn (off := 45) (tgt := 90) hx hb d_MD_count_45 (by rw [e8]; decide) (by rw [e8]; decide) (by rw [e8]; decide) (by decide) ?_
                refine lv_aload_n hx hb d_MD_count_90 rfl (lv_at hl 0 rfl) ?_
                refine gf_MD_170 C hW.1 d_MD_count_91 ?_
                exact W.iret hx hb hr (fun t ht _ => qr_i h ht hW) hW.2.2.2 d_MD_count_94
              · rw [if_neg e8] at h
                by_cases e9 : x1 = 3
                · rw [if_pos e9] at h
                  refine lv_tableIn (off := 50) (tgt := 95) hx hb d_MD_count_45 (by rw [e9]; decide) (by rw [e9]; decide) (by rw [e9]; decide) (by decide) ?_
                  refine lv_aload_n hx hb d_MD_count_95 rfl (lv_at hl 0 rfl) ?_
                  refine gf_MD_123 C hW.1 d_MD_count_96 ?_
                  exact W.iret hx hb hr (fun t ht _ => qr_i h ht hW) hW.2.2.2 d_MD_count_99
                · rw [if_neg e9] at h
                  by_cases e10 : x1 = 4
                  · rw [if_pos e10] at h
                    refine lv_tableIn (off := 55) (tgt := 100) hx hb d_MD_count_45 (by rw [e10]; decide) (by rw [e10]; decide) (by rw [e10]; decide) (by decide) ?_
                    refine lv_aload_n hx hb d_MD_count_100 rfl (lv_at hl 0 rfl) ?_
                    refine gf_MD_145 C hW.1 d_MD_count_101 ?_
                    exact W.iret hx hb hr (fun t ht _ => qr_i h ht hW) hW.2.2.2 d_MD_count_104
                  · rw [if_neg e10] at h
                    have o_e6 : (x1).toInt ≠ 0 := fun q9 => e6 (Int32.toInt_inj.mp (q9.trans (by decide)))
                    have o_e7 : (x1).toInt ≠ 1 := fun q9 => e7 (Int32.toInt_inj.mp (q9.trans (by decide)))
                    have o_e8 : (x1).toInt ≠ 2 := fun q9 => e8 (Int32.toInt_inj.mp (q9.trans (by decide)))
                    have o_e9 : (x1).toInt ≠ 3 := fun q9 => e9 (Int32.toInt_inj.mp (q9.trans (by decide)))
                    have o_e10 : (x1).toInt ≠ 4 := fun q9 => e10 (Int32.toInt_inj.mp (q9.trans (by decide)))
                    refine lv_tableOut (tgt := 105) hx hb d_MD_count_45 (by omega) (by decide) ?_
                    refine lv_iload_n hx hb d_MD_count_105 rfl (lv_at hl 2 rfl) ?_
                    exact W.iret hx hb hr (fun t ht _ => qr_i h ht hW) hW.2.2.2 d_MD_count_106
        · rw [if_neg c4] at h
          refine lv_iload_n hx hb d_MD_count_29 rfl (lv_at hl 2 rfl) ?_
          refine lv_aload_n hx hb d_MD_count_30 rfl (lv_at hl 0 rfl) ?_
          refine gf_MD_32 C hW.1 d_MD_count_31 ?_
          refine lv_iload_n hx hb d_MD_count_34 rfl (lv_at hl 3 rfl) ?_
          obtain ⟨hin, h⟩ := gd_some h
          refine alR_8 C hW.1 hin d_MD_count_35 ?_
          refine lv_iadd hx hb d_MD_count_36 ?_
          obtain ⟨y5, e_y5, h⟩ := lt1_some h
          refine W.eq (g2 := F0 m 37 ls (.int y5 :: [])) (by rw [e_y5]) ?_
          refine lv_istore_n (lv' := [(2, .int y5), (0, .ref (ad 0)), (1, .int x1), (3, .int x3)]) hx hb d_MD_count_37 rfl hl (by decide) rfl (fun ls hl => ?_)
          refine lv_iinc (v := x3 + 1) (lv' := [(3, .int (x3 + 1)), (2, .int y5), (0, .ref (ad 0)), (1, .int x1)]) hx hb d_MD_count_38 hl (k := 3) rfl rfl (by decide) rfl (fun ls hl => ?_)
          refine lv_goto (tgt := 21) hx hb d_MD_count_41 (by decide) ?_
          exact ih21 x1 y5 (x3 + 1) σ h _ _ hW _ (lv_sub hl [2, 3, 1, 0] rfl)
    exact k21 _ a1 0 0 r2.2 h _ _ hW _ (lv_sub hl [2, 3, 1, 0] rfl)
  · rw [if_pos c3] at h
    refine lv_iconst (v := 0) hx hb d_MD_count_15 (by decide) ?_
    exact W.iret hx hb hr (fun t ht _ => qr_i h ht hW) hW.2.2.2 d_MD_count_16
