abbrev wl_MD_keys : List Cond := .code ⟨"PlaceMovesModel", "keys", "(II)I"⟩ prog_9_method_11_code 4 (some FieldType.int) :: WG
set_option maxHeartbeats 4000000 in
set_option maxRecDepth 100000 in
theorem c_MD_keys (l : Launch) (G : va_G) (ad : Nat → Nat) (cI cZ : ClassId) (hD : DR ad) (σ : Sg) (a1 : Int32) (a2 : Int32) (out : Int32 × Sg) (h : f_MD_keys σ a1 a2 = some out) : Met l ⟨"PlaceMovesModel", "keys", "(II)I"⟩ wl_MD_keys ({ frames := 1, cells := 0, slots := 0, locals := 23 } : Room) (PcR G ad cI cZ σ [.ref (ad 0), .int a1, .int a2]) (QRi G ad cI cZ out) 0 0 (AR ad) := by
  refine Met.ofW (cc := prog_9_method_11_code) (maxL := 4) (ret := (some FieldType.int)) (by decide) rfl ?_
  intro p e s m args below meth c s₁ B hml hv
  obtain ⟨rfl, hP, hK⟩ := hv
  have hx := B.exec
  have hb := B.bytes
  have hr := B.returns
  have hts0 := atoms_spec (ws := wl_MD_keys) B.pre
  have hts : ∀ w ∈ WG, w.before _ s = true := fun w hw => hts0 w (List.mem_cons_of_mem _ hw)
  have hown : s.vm.findClass "PlaceMovesModel" = some m.cls := findClass_of_methodNamed B.named
  have hlocks := B.notSynchronized
  have C : CX "PlaceMovesModel" prog_9_method_11_code p s m _ c G cI cZ := ⟨hx, hb, hown, hts, hK⟩
  have hl := lv_entry ([.ref (ad 0), .int a1, .int a2]) (n := 4) (Nat.le_of_ble_eq_true rfl)
  rw [lg_entry_eq]
  generalize (lg_sl ([.ref (ad 0), .int a1, .int a2]) ++ List.replicate (4 - (lg_sl ([.ref (ad 0), .int a1, .int a2])).length) Slot.unset).toArray = ls at hl ⊢
  have hl : lv_has ls 4 [(0, .ref (ad 0)), (1, .int a1), (2, .int a2)] := hl
  unfold f_MD_keys at h
  have hW : WR G ad cI cZ s σ s.heap [] := ⟨hP, va_S.rf⟩
  refine lv_aload_n hx hb d_MD_keys_0 rfl (lv_at hl 0 rfl) ?_
  refine lv_aload_n hx hb d_MD_keys_1 rfl (lv_at hl 0 rfl) ?_
  refine lv_iload_n hx hb d_MD_keys_2 rfl (lv_at hl 1 rfl) ?_
  obtain ⟨r1, g_r1, h⟩ := ob_some h
  refine cl_MD_110 (rest := [.ref (ad 0)]) C (hml.trans hl.1.symm) hW.1 g_r1 ⟨Nat.le_of_ble_eq_true rfl, Nat.le_of_ble_eq_true rfl⟩ (Nat.le_of_ble_eq_true rfl) d_MD_keys_3 ⟨Nat.zero_le _, Nat.zero_le _⟩ ?_
  refine lv_iload_n hx hb d_MD_keys_6 rfl (lv_at hl 2 rfl) ?_
  refine lv_iconst (v := 0) hx hb d_MD_keys_7 (by decide) ?_
  refine lv_iconst (v := 2) hx hb d_MD_keys_8 (by decide) ?_
  obtain ⟨r2, g_r2, h⟩ := ob_some h
  refine cl_MD_98 (rest := [.int r1, .ref (ad 0)]) C (hml.trans hl.1.symm) hW.1 g_r2 ⟨Nat.le_of_ble_eq_true rfl, Nat.le_of_ble_eq_true rfl⟩ (Nat.le_of_ble_eq_true rfl) d_MD_keys_9 ⟨Nat.zero_le _, Nat.zero_le _⟩ ?_
  refine lv_iconst (v := 1) hx hb d_MD_keys_12 (by decide) ?_
  obtain ⟨r3, g_r3, h⟩ := ob_some h
  refine cl_MD_102 (rest := []) C hD (hml.trans hl.1.symm) hW g_r3 ⟨Nat.le_of_ble_eq_true rfl, Nat.le_of_ble_eq_true rfl⟩ (Nat.le_of_ble_eq_true rfl) d_MD_keys_13 ⟨Nat.zero_le _, Nat.zero_le _⟩ (fun H locs hW => ?_)
  refine lv_if_ne (tgt := 21) hx hb d_MD_keys_16 (by decide) (fun c4 => ?_) (fun c4 => ?_)
  · rw [if_neg c4] at h
    refine lv_aload_n hx hb d_MD_keys_21 rfl (lv_at hl 0 rfl) ?_
    refine gf_MD_22 C hW.1 d_MD_keys_22 ?_
    refine lv_iload_n hx hb d_MD_keys_25 rfl (lv_at hl 1 rfl) ?_
    obtain ⟨hin, h⟩ := gd_some h
    refine alR_5 C hW.1 hin d_MD_keys_26 ?_
    obtain ⟨y5, e_y5, h⟩ := lt1_some h
    refine W.eq (g2 := F0 m 27 ls (.int y5 :: [])) (by rw [e_y5]) ?_
    refine lv_istore_n (lv' := [(3, .int y5), (0, .ref (ad 0)), (1, .int a1), (2, .int a2)]) hx hb d_MD_keys_27 rfl hl (by decide) rfl (fun ls hl => ?_)
    refine lv_aload_n hx hb d_MD_keys_28 rfl (lv_at hl 1 rfl) ?_
    refine gf_MD_22 C hW.1 d_MD_keys_29 ?_
    refine lv_iload_n hx hb d_MD_keys_32 rfl (lv_at hl 2 rfl) ?_
    refine lv_iload_n hx hb d_MD_keys_33 rfl (lv_at hl 3 rfl) ?_
    obtain ⟨hin, h⟩ := gd_some h
    refine asR_5 C hD hW hin d_MD_keys_34 (fun H locs hW => ?_)
    obtain ⟨σ6, e_σ6, h⟩ := lt1_some h
    rw [← e_σ6] at hW
    refine lv_iload_n hx hb d_MD_keys_35 rfl (lv_at hl 0 rfl) ?_
    exact W.iret hx hb hr (fun t ht _ => qr_i h ht hW) hW.2.2.2 d_MD_keys_36
  · rw [if_pos c4] at h
    refine lv_iconst (v := 0) hx hb d_MD_keys_19 (by decide) ?_
    exact W.iret hx hb hr (fun t ht _ => qr_i h ht hW) hW.2.2.2 d_MD_keys_20
abbrev wl_MD_key : List Cond := .code ⟨"PlaceMovesModel", "key", "(IZ)Z"⟩ prog_9_method_12_code 4 (some FieldType.boolean) :: WG
set_option maxHeartbeats 4000000 in
set_option maxRecDepth 100000 in
theorem c_MD_key (l : Launch) (G : va_G) (ad : Nat → Nat) (cI cZ : ClassId) (hD : DR ad) (σ : Sg) (a1 : Int32) (a2 : Int32) (out : Int32 × Sg) (h : f_MD_key σ a1 a2 = some out) : Met l ⟨"PlaceMovesModel", "key", "(IZ)Z"⟩ wl_MD_key ({ frames := 1, cells := 0, slots := 0, locals := 23 } : Room) (PcR G ad cI cZ σ [.ref (ad 0), .int a1, .int a2]) (QRi G ad cI cZ out) 0 0 (AR ad) := by
  refine Met.ofW (cc := prog_9_method_12_code) (maxL := 4) (ret := (some FieldType.boolean)) (by decide) rfl ?_
  intro p e s m args below meth c s₁ B hml hv
  obtain ⟨rfl, hP, hK⟩ := hv
  have hx := B.exec
  have hb := B.bytes
  have hr := B.returns
  have hts0 := atoms_spec (ws := wl_MD_key) B.pre
  have hts : ∀ w ∈ WG, w.before _ s = true := fun w hw => hts0 w (List.mem_cons_of_mem _ hw)
  have hown : s.vm.findClass "PlaceMovesModel" = some m.cls := findClass_of_methodNamed B.named
  have hlocks := B.notSynchronized
  have C : CX "PlaceMovesModel" prog_9_method_12_code p s m _ c G cI cZ := ⟨hx, hb, hown, hts, hK⟩
  have hl := lv_entry ([.ref (ad 0), .int a1, .int a2]) (n := 4) (Nat.le_of_ble_eq_true rfl)
  rw [lg_entry_eq]
  generalize (lg_sl ([.ref (ad 0), .int a1, .int a2]) ++ List.replicate (4 - (lg_sl ([.ref (ad 0), .int a1, .int a2])).length) Slot.unset).toArray = ls at hl ⊢
  have hl : lv_has ls 4 [(0, .ref (ad 0)), (1, .int a1), (2, .int a2)] := hl
  unfold f_MD_key at h
  have hW : WR G ad cI cZ s σ s.heap [] := ⟨hP, va_S.rf⟩
  refine lv_aload_n hx hb d_MD_key_0 rfl (lv_at hl 0 rfl) ?_
  refine lv_iload_n hx hb d_MD_key_1 rfl (lv_at hl 1 rfl) ?_
  obtain ⟨r1, g_r1, h⟩ := ob_some h
  refine cl_MD_113 (rest := [.ref (ad 0)]) C (hml.trans hl.1.symm) hW.1 g_r1 ⟨Nat.le_of_ble_eq_true rfl, Nat.le_of_ble_eq_true rfl⟩ (Nat.le_of_ble_eq_true rfl) d_MD_key_2 ⟨Nat.zero_le _, Nat.zero_le _⟩ ?_
  refine lv_iconst (v := 1) hx hb d_MD_key_5 (by decide) ?_
  refine lv_iconst (v := 1) hx hb d_MD_key_6 (by decide) ?_
  obtain ⟨r2, g_r2, h⟩ := ob_some h
  refine cl_MD_102 (rest := []) C hD (hml.trans hl.1.symm) hW g_r2 ⟨Nat.le_of_ble_eq_true rfl, Nat.le_of_ble_eq_true rfl⟩ (Nat.le_of_ble_eq_true rfl) d_MD_key_7 ⟨Nat.zero_le _, Nat.zero_le _⟩ (fun H locs hW => ?_)
  refine lv_if_ne (tgt := 15) hx hb d_MD_key_10 (by decide) (fun c3 => ?_) (fun c3 => ?_)
  · rw [if_neg c3] at h
    refine lv_aload_n hx hb d_MD_key_15 rfl (lv_at hl 0 rfl) ?_
    refine gf_MD_29 C hW.1 d_MD_key_16 ?_
    refine lv_iload_n hx hb d_MD_key_19 rfl (lv_at hl 1 rfl) ?_
    obtain ⟨hin, h⟩ := gd_some h
    refine alR_7 C hW.1 hin d_MD_key_20 ?_
    refine lv_iload_n hx hb d_MD_key_21 rfl (lv_at hl 2 rfl) ?_
    refine lv_icmp_eq (tgt := 29) hx hb d_MD_key_22 (by decide) (fun c4 => ?_) (fun c4 => ?_)
    · rw [if_pos c4] at h
      refine lv_iconst (v := 0) hx hb d_MD_key_29 (by decide) ?_
      refine lv_istore_n (lv' := [(3, .int 0), (0, .ref (ad 0)), (1, .int a1), (2, .int a2)]) hx hb d_MD_key_30 rfl hl (by decide) rfl (fun ls hl => ?_)
      refine lv_aload_n hx hb d_MD_key_31 rfl (lv_at hl 1 rfl) ?_
      refine gf_MD_29 C hW.1 d_MD_key_32 ?_
      refine lv_iload_n hx hb d_MD_key_35 rfl (lv_at hl 2 rfl) ?_
      refine lv_iload_n hx hb d_MD_key_36 rfl (lv_at hl 3 rfl) ?_
      obtain ⟨hin, h⟩ := gd_some h
      refine asR_7 C hD hW hin d_MD_key_37 (fun H locs hW => ?_)
      obtain ⟨σ6, e_σ6, h⟩ := lt1_some h
      rw [← e_σ6] at hW
      refine lv_iload_n hx hb d_MD_key_38 rfl (lv_at hl 0 rfl) ?_
      exact W.zret hx hb hr rfl (fun t ht _ => qr_i h ht hW) hW.2.2.2 d_MD_key_39
    · rw [if_neg c4] at h
      refine lv_iconst (v := 1) hx hb d_MD_key_25 (by decide) ?_
      refine lv_goto (tgt := 30) hx hb d_MD_key_26 (by decide) ?_
      refine lv_istore_n (lv' := [(3, .int 1), (0, .ref (ad 0)), (1, .int a1), (2, .int a2)]) hx hb d_MD_key_30 rfl hl (by decide) rfl (fun ls hl => ?_)
      refine lv_aload_n hx hb d_MD_key_31 rfl (lv_at hl 1 rfl) ?_
      refine gf_MD_29 C hW.1 d_MD_key_32 ?_
      refine lv_iload_n hx hb d_MD_key_35 rfl (lv_at hl 2 rfl) ?_
      refine lv_iload_n hx hb d_MD_key_36 rfl (lv_at hl 3 rfl) ?_
      obtain ⟨hin, h⟩ := gd_some h
      refine asR_7 C hD hW hin d_MD_key_37 (fun H locs hW => ?_)
      obtain ⟨σ5, e_σ5, h⟩ := lt1_some h
      rw [← e_σ5] at hW
      refine lv_iload_n hx hb d_MD_key_38 rfl (lv_at hl 0 rfl) ?_
      exact W.zret hx hb hr rfl (fun t ht _ => qr_i h ht hW) hW.2.2.2 d_MD_key_39
  · rw [if_pos c3] at h
    refine lv_iconst (v := 0) hx hb d_MD_key_13 (by decide) ?_
    exact W.zret hx hb hr rfl (fun t ht _ => qr_i h ht hW) hW.2.2.2 d_MD_key_14
abbrev wl_MD_box : List Cond := .code ⟨"PlaceMovesModel", "box", "(I)Z"⟩ prog_9_method_13_code 3 (some FieldType.boolean) :: WG
set_option maxHeartbeats 4000000 in
set_option maxRecDepth 100000 in
theorem c_MD_box (l : Launch) (G : va_G) (ad : Nat → Nat) (cI cZ : ClassId) (hD : DR ad) (σ : Sg) (a1 : Int32) (out : Int32 × Sg) (h : f_MD_box σ a1 = some out) : Met l ⟨"PlaceMovesModel", "box", "(I)Z"⟩ wl_MD_box ({ frames := 1, cells := 0, slots := 0, locals := 23 } : Room) (PcR G ad cI cZ σ [.ref (ad 0), .int a1]) (QRi G ad cI cZ out) 0 0 (AR ad) := by
  refine Met.ofW (cc := prog_9_method_13_code) (maxL := 3) (ret := (some FieldType.boolean)) (by decide) rfl ?_
  intro p e s m args below meth c s₁ B hml hv
  obtain ⟨rfl, hP, hK⟩ := hv
  have hx := B.exec
  have hb := B.bytes
  have hr := B.returns
  have hts0 := atoms_spec (ws := wl_MD_box) B.pre
  have hts : ∀ w ∈ WG, w.before _ s = true := fun w hw => hts0 w (List.mem_cons_of_mem _ hw)
  have hown : s.vm.findClass "PlaceMovesModel" = some m.cls := findClass_of_methodNamed B.named
  have hlocks := B.notSynchronized
  have C : CX "PlaceMovesModel" prog_9_method_13_code p s m _ c G cI cZ := ⟨hx, hb, hown, hts, hK⟩
  have hl := lv_entry ([.ref (ad 0), .int a1]) (n := 3) (Nat.le_of_ble_eq_true rfl)
  rw [lg_entry_eq]
  generalize (lg_sl ([.ref (ad 0), .int a1]) ++ List.replicate (3 - (lg_sl ([.ref (ad 0), .int a1])).length) Slot.unset).toArray = ls at hl ⊢
  have hl : lv_has ls 3 [(0, .ref (ad 0)), (1, .int a1)] := hl
  unfold f_MD_box at h
  have hW : WR G ad cI cZ s σ s.heap [] := ⟨hP, va_S.rf⟩
  refine lv_aload_n hx hb d_MD_box_0 rfl (lv_at hl 0 rfl) ?_
  refine lv_aload_n hx hb d_MD_box_1 rfl (lv_at hl 0 rfl) ?_
  refine lv_iload_n hx hb d_MD_box_2 rfl (lv_at hl 1 rfl) ?_
  obtain ⟨r1, g_r1, h⟩ := ob_some h
  refine cl_MD_110 (rest := [.ref (ad 0)]) C (hml.trans hl.1.symm) hW.1 g_r1 ⟨Nat.le_of_ble_eq_true rfl, Nat.le_of_ble_eq_true rfl⟩ (Nat.le_of_ble_eq_true rfl) d_MD_box_3 ⟨Nat.zero_le _, Nat.zero_le _⟩ ?_
  refine lv_iconst (v := 1) hx hb d_MD_box_6 (by decide) ?_
  refine lv_iconst (v := 1) hx hb d_MD_box_7 (by decide) ?_
  obtain ⟨r2, g_r2, h⟩ := ob_some h
  refine cl_MD_102 (rest := []) C hD (hml.trans hl.1.symm) hW g_r2 ⟨Nat.le_of_ble_eq_true rfl, Nat.le_of_ble_eq_true rfl⟩ (Nat.le_of_ble_eq_true rfl) d_MD_box_8 ⟨Nat.zero_le _, Nat.zero_le _⟩ (fun H locs hW => ?_)
  refine lv_if_ne (tgt := 16) hx hb d_MD_box_11 (by decide) (fun c3 => ?_) (fun c3 => ?_)
  · rw [if_neg c3] at h
    refine lv_aload_n hx hb d_MD_box_16 rfl (lv_at hl 0 rfl) ?_
    refine gf_MD_25 C hW.1 d_MD_box_17 ?_
    refine lv_iload_n hx hb d_MD_box_20 rfl (lv_at hl 1 rfl) ?_
    obtain ⟨hin, h⟩ := gd_some h
    refine alR_6 C hW.1 hin d_MD_box_21 ?_
    obtain ⟨y4, e_y4, h⟩ := lt1_some h
    refine W.eq (g2 := F0 m 22 ls (.int y4 :: [])) (by rw [e_y4]) ?_
    refine lv_istore_n (lv' := [(2, .int y4), (0, .ref (ad 0)), (1, .int a1)]) hx hb d_MD_box_22 rfl hl (by decide) rfl (fun ls hl => ?_)
    refine lv_aload_n hx hb d_MD_box_23 rfl (lv_at hl 1 rfl) ?_
    refine gf_MD_25 C hW.1 d_MD_box_24 ?_
    refine lv_iload_n hx hb d_MD_box_27 rfl (lv_at hl 2 rfl) ?_
    refine lv_iconst (v := 1) hx hb d_MD_box_28 (by decide) ?_
    obtain ⟨hin, h⟩ := gd_some h
    refine asR_6 C hD hW hin d_MD_box_29 (fun H locs hW => ?_)
    obtain ⟨σ5, e_σ5, h⟩ := lt1_some h
    rw [← e_σ5] at hW
    refine lv_iload_n hx hb d_MD_box_30 rfl (lv_at hl 0 rfl) ?_
    refine lv_if_ne (tgt := 38) hx hb d_MD_box_31 (by decide) (fun c6 => ?_) (fun c6 => ?_)
    · rw [if_neg c6] at h
      refine lv_iconst (v := 0) hx hb d_MD_box_38 (by decide) ?_
      exact W.zret hx hb hr rfl (fun t ht _ => qr_i h ht hW) hW.2.2.2 d_MD_box_39
    · rw [if_pos c6] at h
      refine lv_iconst (v := 1) hx hb d_MD_box_34 (by decide) ?_
      refine lv_goto (tgt := 39) hx hb d_MD_box_35 (by decide) ?_
      exact W.zret hx hb hr rfl (fun t ht _ => qr_i h ht hW) hW.2.2.2 d_MD_box_39
  · rw [if_pos c3] at h
    refine lv_iconst (v := 0) hx hb d_MD_box_14 (by decide) ?_
    exact W.zret hx hb hr rfl (fun t ht _ => qr_i h ht hW) hW.2.2.2 d_MD_box_15
abbrev wl_MD_rowAt : List Cond := .code ⟨"PlaceMovesModel", "rowAt", "(II)I"⟩ prog_9_method_14_code 5 (some FieldType.int) :: WG
set_option maxHeartbeats 4000000 in
set_option maxRecDepth 100000 in
theorem c_MD_rowAt (l : Launch) (G : va_G) (ad : Nat → Nat) (cI cZ : ClassId) (σ : Sg) (a1 : Int32) (a2 : Int32) (out : Int32) (h : f_MD_rowAt σ a1 a2 = some out) : Met l ⟨"PlaceMovesModel", "rowAt", "(II)I"⟩ wl_MD_rowAt ({ frames := 0, cells := 0, slots := 0, locals := 0 } : Room) (PcR G ad cI cZ σ [.ref (ad 0), .int a1, .int a2]) (vp_Si (fun r => r = out)) 0 0 (fun _ => False) := by
  refine Met.ofW (cc := prog_9_method_14_code) (maxL := 5) (ret := (some FieldType.int)) (by decide) rfl ?_
  intro p e s m args below meth c s₁ B hml hv
  obtain ⟨rfl, hP, hK⟩ := hv
  have hx := B.exec
  have hb := B.bytes
  have hr := B.returns
  have hts0 := atoms_spec (ws := wl_MD_rowAt) B.pre
  have hts : ∀ w ∈ WG, w.before _ s = true := fun w hw => hts0 w (List.mem_cons_of_mem _ hw)
  have hown : s.vm.findClass "PlaceMovesModel" = some m.cls := findClass_of_methodNamed B.named
  have hlocks := B.notSynchronized
  have C : CX "PlaceMovesModel" prog_9_method_14_code p s m _ c G cI cZ := ⟨hx, hb, hown, hts, hK⟩
  have hl := lv_entry ([.ref (ad 0), .int a1, .int a2]) (n := 5) (Nat.le_of_ble_eq_true rfl)
  rw [lg_entry_eq]
  generalize (lg_sl ([.ref (ad 0), .int a1, .int a2]) ++ List.replicate (5 - (lg_sl ([.ref (ad 0), .int a1, .int a2])).length) Slot.unset).toArray = ls at hl ⊢
  have hl : lv_has ls 5 [(0, .ref (ad 0)), (1, .int a1), (2, .int a2)] := hl
  unfold f_MD_rowAt at h
  refine lv_iconst (v := (-1)) hx hb d_MD_rowAt_0 (by decide) ?_
  refine lv_istore_n (lv' := [(3, .int ((-1))), (0, .ref (ad 0)), (1, .int a1), (2, .int a2)]) hx hb d_MD_rowAt_1 rfl hl (by decide) rfl (fun ls hl => ?_)
  refine lv_bipush (v := 40) hx hb d_MD_rowAt_2 (by decide) ?_
  refine lv_iload_n hx hb d_MD_rowAt_4 rfl (lv_at hl 2 rfl) ?_
  refine lv_imul hx hb d_MD_rowAt_5 ?_
  refine lv_istore (lv' := [(4, .int (40 * a1)), (3, .int ((-1))), (0, .ref (ad 0)), (1, .int a1), (2, .int a2)]) hx hb d_MD_rowAt_6 hl (by decide) rfl (fun ls hl => ?_)
  have k8 : ∀ (n8 : Nat) (x1 : Int32) (x2 : Int32) (x3 : Int32) (x4 : Int32) (h : L_MD_rowAt_8 σ n8 x1 x2 x3 x4 = some out) (ls : Array Slot) (hl : lv_has ls 5 [(0, .ref (ad 0)), (1, .int x1), (2, .int x2), (3, .int x3), (4, .int x4)]), W p l e (headSpec wl_MD_rowAt ({ frames := 0, cells := 0, slots := 0, locals := 0 } : Room)).room s m (([.ref (ad 0), .int a1, .int a2] : List Value).toArray) below meth c s.heap [] 0 0 (MQ below (vp_Si (fun r => r = out)) (([.ref (ad 0), .int a1, .int a2] : List Value).toArray) s 0 0 (fun _ => False)) (F0 m 8 ls []) := by
    intro n8
    induction n8 with
    | zero =>
      intro x1 x2 x3 x4 h
      exact absurd h (by intro z; cases z)
    | succ n8 ih8 =>
      intro x1 x2 x3 x4 h ls hl
      replace h : B_MD_rowAt_8 σ (L_MD_rowAt_8 σ n8) x1 x2 x3 x4 = some out := h
      unfold B_MD_rowAt_8 at h
      refine lv_iload hx hb d_MD_rowAt_8 (lv_at hl 4 rfl) ?_
      refine lv_bipush (v := 40) hx hb d_MD_rowAt_10 (by decide) ?_
      refine lv_iload_n hx hb d_MD_rowAt_12 rfl (lv_at hl 1 rfl) ?_
      refine lv_imul hx hb d_MD_rowAt_13 ?_
      refine lv_aload_n hx hb d_MD_rowAt_14 rfl (lv_at hl 0 rfl) ?_
      refine gf_MD_32 C hP d_MD_rowAt_15 ?_
      refine lv_iload_n hx hb d_MD_rowAt_18 rfl (lv_at hl 1 rfl) ?_
      obtain ⟨hin, h⟩ := gd_some h
      refine alR_8 C hP hin d_MD_rowAt_19 ?_
      refine lv_iadd hx hb d_MD_rowAt_20 ?_
      refine lv_icmp_ge (tgt := 48) hx hb d_MD_rowAt_21 (by decide) (fun c1 => ?_) (fun c1 => ?_)
      · rw [if_pos c1] at h
        refine lv_iload_n hx hb d_MD_rowAt_48 rfl (lv_at hl 3 rfl) ?_
        exact W.iret hx hb hr (fun t ht _ => ⟨_, rfl, Option.some.inj h, ht⟩) (fun _ hq => nomatch hq) d_MD_rowAt_49
      · rw [if_neg c1] at h
        refine lv_aload_n hx hb d_MD_rowAt_24 rfl (lv_at hl 0 rfl) ?_
        refine gf_MD_35 C hP d_MD_rowAt_25 ?_
        refine lv_iload hx hb d_MD_rowAt_28 (lv_at hl 4 rfl) ?_
        obtain ⟨hin, h⟩ := gd_some h
        refine alR_9 C hP hin d_MD_rowAt_30 ?_
        refine lv_iload_n hx hb d_MD_rowAt_31 rfl (lv_at hl 2 rfl) ?_
        refine lv_icmp_gt (tgt := 40) hx hb d_MD_rowAt_32 (by decide) (fun c2 => ?_) (fun c2 => ?_)
        · rw [if_pos c2] at h
          refine lv_iload_n hx hb d_MD_rowAt_40 rfl (lv_at hl 3 rfl) ?_
          refine lv_istore_n (lv' := [(3, .int x3), (0, .ref (ad 0)), (1, .int x1), (2, .int x2), (4, .int x4)]) hx hb d_MD_rowAt_41 rfl hl (by decide) rfl (fun ls hl => ?_)
          refine lv_iinc (v := x4 + 1) (lv' := [(4, .int (x4 + 1)), (3, .int x3), (0, .ref (ad 0)), (1, .int x1), (2, .int x2)]) hx hb d_MD_rowAt_42 hl (k := 4) rfl rfl (by decide) rfl (fun ls hl => ?_)
          refine lv_goto (tgt := 8) hx hb d_MD_rowAt_45 (by decide) ?_
          exact ih8 x1 x2 x3 (x4 + 1) h _ (lv_sub hl [2, 3, 4, 1, 0] rfl)
        · rw [if_neg c2] at h
          refine lv_iload hx hb d_MD_rowAt_35 (lv_at hl 4 rfl) ?_
          refine lv_goto (tgt := 41) hx hb d_MD_rowAt_37 (by decide) ?_
          refine lv_istore_n (lv' := [(3, .int x4), (0, .ref (ad 0)), (1, .int x1), (2, .int x2), (4, .int x4)]) hx hb d_MD_rowAt_41 rfl hl (by decide) rfl (fun ls hl => ?_)
          refine lv_iinc (v := x4 + 1) (lv' := [(4, .int (x4 + 1)), (3, .int x4), (0, .ref (ad 0)), (1, .int x1), (2, .int x2)]) hx hb d_MD_rowAt_42 hl (k := 4) rfl rfl (by decide) rfl (fun ls hl => ?_)
          refine lv_goto (tgt := 8) hx hb d_MD_rowAt_45 (by decide) ?_
          exact ih8 x1 x2 x4 (x4 + 1) h _ (lv_sub hl [2, 3, 4, 1, 0] rfl)
  exact k8 _ a1 a2 ((-1)) (40 * a1) h _ (lv_sub hl [2, 3, 4, 1, 0] rfl)
section RC
variable {p : Program} {l : Launch} {e : Env} {R : Room} {s : State} {m : MethodId} {args : Array Value} {below : List Frame} {meth : Method} {c : Code} {H : Heap} {locs : List Loc} {cells slots : Nat} {Q : State → Prop}
variable {cc : ByteArray} {pc : Nat} {ls : Array Slot} {rest : List Value} {G : va_G} {ad : Nat → Nat} {cI cZ : ClassId} {σ : Sg} {own : String}
theorem cl_MD_119 (C : CX "PlaceMovesModel" cc p s m args c G cI cZ) (hml : c.maxLocals = ls.size) (hP : va_P G clX (wR ad cI cZ σ) H) {x1 : Int32} {x2 : Int32} {r : Int32} (hg : f_MD_rowAt σ x1 x2 = some r) (hR : 0 + 1 ≤ R.frames ∧ 8 + (5 + 11) + 0 ≤ R.locals) (hrest : (rest.map fun v => v.category).sum ≤ 8) (hd : decode cc pc = .ok (.invokevirtual 119, 3)) (hcs : cells + 0 ≤ R.cells ∧ slots + 0 ≤ R.slots) (kk : W p l e R s m args below meth c H locs cells slots Q (F0 m (pc + 3) ls (.int r :: rest))) : W p l e R s m args below meth c H locs cells slots Q (F0 m pc ls (.int x2 :: .int x1 :: .ref (ad 0) :: rest)) :=
  vp_callSi (W.runV (As := [.int x1, .int x2]) (rest := rest) ⟨C.1, C.2.1, hml, C.2.2.1, C.2.2.2.1⟩ (c_MD_rowAt l G ad cI cZ σ x1 x2 r hg) (cwV 2 C.2.2.2.1 (wg_V w_756 w_758 ws_22 w_8 w_759) rfl rfl rfl (by decide +kernel) hR) ⟨PcR.blind, va_recv C.2.2.2.2.1 hP (ci := 7) (q0 := 0) rfl rfl, fun U hU hW => ⟨rfl, by rw [hU]; exact hP, C.2.2.2.2.warm hW⟩⟩ rfl rfl rfl rfl (lv_room hrest) hd hcs) (fun r' e => by subst e; exact kk)
end RC
abbrev wl_MD_at : List Cond := .code ⟨"PlaceMovesModel", "at", "(II)I"⟩ prog_9_method_15_code 6 (some FieldType.int) :: WG
set_option maxHeartbeats 4000000 in
set_option maxRecDepth 100000 in
theorem c_MD_at (l : Launch) (G : va_G) (ad : Nat → Nat) (cI cZ : ClassId) (σ : Sg) (a1 : Int32) (a2 : Int32) (out : Int32) (h : f_MD_at σ a1 a2 = some out) : Met l ⟨"PlaceMovesModel", "at", "(II)I"⟩ wl_MD_at ({ frames := 1, cells := 0, slots := 0, locals := 24 } : Room) (PcR G ad cI cZ σ [.ref (ad 0), .int a1, .int a2]) (vp_Si (fun r => r = out)) 0 0 (fun _ => False) := by
  refine Met.ofW (cc := prog_9_method_15_code) (maxL := 6) (ret := (some FieldType.int)) (by decide) rfl ?_
  intro p e s m args below meth c s₁ B hml hv
  obtain ⟨rfl, hP, hK⟩ := hv
  have hx := B.exec
  have hb := B.bytes
  have hr := B.returns
  have hts0 := atoms_spec (ws := wl_MD_at) B.pre
  have hts : ∀ w ∈ WG, w.before _ s = true := fun w hw => hts0 w (List.mem_cons_of_mem _ hw)
  have hown : s.vm.findClass "PlaceMovesModel" = some m.cls := findClass_of_methodNamed B.named
  have hlocks := B.notSynchronized
  have C : CX "PlaceMovesModel" prog_9_method_15_code p s m _ c G cI cZ := ⟨hx, hb, hown, hts, hK⟩
  have hl := lv_entry ([.ref (ad 0), .int a1, .int a2]) (n := 6) (Nat.le_of_ble_eq_true rfl)
  rw [lg_entry_eq]
  generalize (lg_sl ([.ref (ad 0), .int a1, .int a2]) ++ List.replicate (6 - (lg_sl ([.ref (ad 0), .int a1, .int a2])).length) Slot.unset).toArray = ls at hl ⊢
  have hl : lv_has ls 6 [(0, .ref (ad 0)), (1, .int a1), (2, .int a2)] := hl
  unfold f_MD_at at h
  refine lv_iload_n hx hb d_MD_at_0 rfl (lv_at hl 1 rfl) ?_
  refine lv_istore_n (lv' := [(3, .int a1), (0, .ref (ad 0)), (1, .int a1), (2, .int a2)]) hx hb d_MD_at_1 rfl hl (by decide) rfl (fun ls hl => ?_)
  refine lv_iconst (v := 0) hx hb d_MD_at_2 (by decide) ?_
  refine lv_istore (lv' := [(4, .int 0), (3, .int a1), (0, .ref (ad 0)), (1, .int a1), (2, .int a2)]) hx hb d_MD_at_3 hl (by decide) rfl (fun ls hl => ?_)
  have k5 : ∀ (n5 : Nat) (x2 : Int32) (x3 : Int32) (x4 : Int32) (h : L_MD_at_5 σ n5 x2 x3 x4 = some out) (ls : Array Slot) (hl : lv_has ls 6 [(0, .ref (ad 0)), (2, .int x2), (3, .int x3), (4, .int x4)]), W p l e (headSpec wl_MD_at ({ frames := 1, cells := 0, slots := 0, locals := 24 } : Room)).room s m (([.ref (ad 0), .int a1, .int a2] : List Value).toArray) below meth c s.heap [] 0 0 (MQ below (vp_Si (fun r => r = out)) (([.ref (ad 0), .int a1, .int a2] : List Value).toArray) s 0 0 (fun _ => False)) (F0 m 5 ls []) := by
    intro n5
    induction n5 with
    | zero =>
      intro x2 x3 x4 h
      exact absurd h (by intro z; cases z)
    | succ n5 ih5 =>
      intro x2 x3 x4 h ls hl
      replace h : B_MD_at_5 σ (L_MD_at_5 σ n5) x2 x3 x4 = some out := h
      unfold B_MD_at_5 at h
      refine lv_iload hx hb d_MD_at_5 (lv_at hl 3 rfl) ?_
      refine lv_bipush (v := 20) hx hb d_MD_at_7 (by decide) ?_
      refine lv_icmp_gt (tgt := 84) hx hb d_MD_at_9 (by decide) (fun c1 => ?_) (fun c1 => ?_)
      · rw [if_pos c1] at h
        refine lv_iconst (v := (-1)) hx hb d_MD_at_84 (by decide) ?_
        exact W.iret hx hb hr (fun t ht _ => ⟨_, rfl, Option.some.inj h, ht⟩) (fun _ hq => nomatch hq) d_MD_at_85
      · rw [if_neg c1] at h
        refine lv_iload_n hx hb d_MD_at_12 rfl (lv_at hl 2 rfl) ?_
        refine lv_aload_n hx hb d_MD_at_13 rfl (lv_at hl 0 rfl) ?_
        refine gf_MD_80 C hP d_MD_at_14 ?_
        refine lv_icmp_ne (tgt := 25) hx hb d_MD_at_17 (by decide) (fun c2 => ?_) (fun c2 => ?_)
        · rw [if_neg c2] at h
          refine lv_aload_n hx hb d_MD_at_25 rfl (lv_at hl 0 rfl) ?_
          refine lv_iload_n hx hb d_MD_at_26 rfl (lv_at hl 2 rfl) ?_
          refine lv_iload_n hx hb d_MD_at_27 rfl (lv_at hl 1 rfl) ?_
          obtain ⟨r3, g_r3, h⟩ := ob_some h
          refine cl_MD_119 (rest := []) C (hml.trans hl.1.symm) hP g_r3 ⟨Nat.le_of_ble_eq_true rfl, Nat.le_of_ble_eq_true rfl⟩ (Nat.le_of_ble_eq_true rfl) d_MD_at_28 ⟨Nat.zero_le _, Nat.zero_le _⟩ ?_
          refine lv_istore (lv' := [(5, .int r3), (0, .ref (ad 0)), (2, .int x2), (3, .int x3), (4, .int x4)]) hx hb d_MD_at_31 hl (by decide) rfl (fun ls hl => ?_)
          refine lv_iload hx hb d_MD_at_33 (lv_at hl 0 rfl) ?_
          refine lv_iconst (v := (-1)) hx hb d_MD_at_35 (by decide) ?_
          refine lv_icmp_eq (tgt := 50) hx hb d_MD_at_36 (by decide) (fun c4 => ?_) (fun c4 => ?_)
          · rw [if_pos c4] at h
            refine lv_iconst (v := (-1)) hx hb d_MD_at_50 (by decide) ?_
            exact W.iret hx hb hr (fun t ht _ => ⟨_, rfl, Option.some.inj h, ht⟩) (fun _ hq => nomatch hq) d_MD_at_51
          · rw [if_neg c4] at h
            refine lv_aload_n hx hb d_MD_at_39 rfl (lv_at hl 1 rfl) ?_
            refine gf_MD_38 C hP d_MD_at_40 ?_
            refine lv_iload hx hb d_MD_at_43 (lv_at hl 0 rfl) ?_
            obtain ⟨hin, h⟩ := gd_some h
            refine alR_10 C hP hin d_MD_at_45 ?_
            refine lv_iconst (v := 2) hx hb d_MD_at_46 (by decide) ?_
            refine lv_icmp_ne (tgt := 52) hx hb d_MD_at_47 (by decide) (fun c5 => ?_) (fun c5 => ?_)
            · rw [if_neg c5] at h
              refine lv_aload_n hx hb d_MD_at_52 rfl (lv_at hl 1 rfl) ?_
              refine gf_MD_38 C hP d_MD_at_53 ?_
              refine lv_iload hx hb d_MD_at_56 (lv_at hl 0 rfl) ?_
              obtain ⟨hin, h⟩ := gd_some h
              refine alR_10 C hP hin d_MD_at_58 ?_
              refine lv_if_ne (tgt := 70) hx hb d_MD_at_59 (by decide) (fun c6 => ?_) (fun c6 => ?_)
              · rw [if_neg c6] at h
                refine lv_aload_n hx hb d_MD_at_70 rfl (lv_at hl 1 rfl) ?_
                refine gf_MD_41 C hP d_MD_at_71 ?_
                refine lv_iload hx hb d_MD_at_74 (lv_at hl 0 rfl) ?_
                obtain ⟨hin, h⟩ := gd_some h
                refine alR_11 C hP hin d_MD_at_76 ?_
                obtain ⟨y7, e_y7, h⟩ := lt1_some h
                refine W.eq (g2 := F0 m 77 ls (.int y7 :: [])) (by rw [e_y7]) ?_
                refine lv_istore_n (lv' := [(3, .int y7), (5, .int r3), (0, .ref (ad 0)), (2, .int x2), (4, .int x4)]) hx hb d_MD_at_77 rfl hl (by decide) rfl (fun ls hl => ?_)
                refine lv_iinc (v := x4 + 1) (lv' := [(4, .int (x4 + 1)), (3, .int y7), (5, .int r3), (0, .ref (ad 0)), (2, .int x2)]) hx hb d_MD_at_78 hl (k := 4) rfl rfl (by decide) rfl (fun ls hl => ?_)
                refine lv_goto (tgt := 5) hx hb d_MD_at_81 (by decide) ?_
                exact ih5 x2 y7 (x4 + 1) h _ (lv_sub hl [3, 4, 1, 0] rfl)
              · rw [if_pos c6] at h
                refine lv_aload_n hx hb d_MD_at_62 rfl (lv_at hl 1 rfl) ?_
                refine gf_MD_41 C hP d_MD_at_63 ?_
                refine lv_iload hx hb d_MD_at_66 (lv_at hl 0 rfl) ?_
                obtain ⟨hin, h⟩ := gd_some h
                refine alR_11 C hP hin d_MD_at_68 ?_
                exact W.iret hx hb hr (fun t ht _ => ⟨_, rfl, Option.some.inj h, ht⟩) (fun _ hq => nomatch hq) d_MD_at_69
            · rw [if_pos c5] at h
              refine lv_iconst (v := (-1)) hx hb d_MD_at_50 (by decide) ?_
              exact W.iret hx hb hr (fun t ht _ => ⟨_, rfl, Option.some.inj h, ht⟩) (fun _ hq => nomatch hq) d_MD_at_51
        · rw [if_pos c2] at h
          refine lv_aload_n hx hb d_MD_at_20 rfl (lv_at hl 0 rfl) ?_
          refine gf_MD_116 C hP d_MD_at_21 ?_
          exact W.iret hx hb hr (fun t ht _ => ⟨_, rfl, Option.some.inj h, ht⟩) (fun _ hq => nomatch hq) d_MD_at_24
  exact k5 _ a2 a1 0 h _ (lv_sub hl [2, 4, 1, 0] rfl)
section RC
variable {p : Program} {l : Launch} {e : Env} {R : Room} {s : State} {m : MethodId} {args : Array Value} {below : List Frame} {meth : Method} {c : Code} {H : Heap} {locs : List Loc} {cells slots : Nat} {Q : State → Prop}
variable {cc : ByteArray} {pc : Nat} {ls : Array Slot} {rest : List Value} {G : va_G} {ad : Nat → Nat} {cI cZ : ClassId} {σ : Sg} {own : String}
theorem cl_MD_130 (C : CX "PlaceMovesModel" cc p s m args c G cI cZ) (hml : c.maxLocals = ls.size) (hP : va_P G clX (wR ad cI cZ σ) H) {x1 : Int32} {x2 : Int32} {r : Int32} (hg : f_MD_at σ x1 x2 = some r) (hR : 1 + 1 ≤ R.frames ∧ 8 + (6 + 11) + 24 ≤ R.locals) (hrest : (rest.map fun v => v.category).sum ≤ 8) (hd : decode cc pc = .ok (.invokevirtual 130, 3)) (hcs : cells + 0 ≤ R.cells ∧ slots + 0 ≤ R.slots) (kk : W p l e R s m args below meth c H locs cells slots Q (F0 m (pc + 3) ls (.int r :: rest))) : W p l e R s m args below meth c H locs cells slots Q (F0 m pc ls (.int x2 :: .int x1 :: .ref (ad 0) :: rest)) :=
  vp_callSi (W.runV (As := [.int x1, .int x2]) (rest := rest) ⟨C.1, C.2.1, hml, C.2.2.1, C.2.2.2.1⟩ (c_MD_at l G ad cI cZ σ x1 x2 r hg) (cwV 2 C.2.2.2.1 (wg_V w_752 w_754 ws_21 w_8 w_755) rfl rfl rfl (by decide +kernel) hR) ⟨PcR.blind, va_recv C.2.2.2.2.1 hP (ci := 7) (q0 := 0) rfl rfl, fun U hU hW => ⟨rfl, by rw [hU]; exact hP, C.2.2.2.2.warm hW⟩⟩ rfl rfl rfl rfl (lv_room hrest) hd hcs) (fun r' e => by subst e; exact kk)
end RC
abbrev wl_MD_lies : List Cond := .code ⟨"PlaceMovesModel", "lies", "(II)Z"⟩ prog_9_method_16_code 4 (some FieldType.boolean) :: WG
set_option maxHeartbeats 4000000 in
set_option maxRecDepth 100000 in
theorem c_MD_lies (l : Launch) (G : va_G) (ad : Nat → Nat) (cI cZ : ClassId) (σ : Sg) (a1 : Int32) (a2 : Int32) (out : Int32) (h : f_MD_lies σ a1 a2 = some out) : Met l ⟨"PlaceMovesModel", "lies", "(II)Z"⟩ wl_MD_lies ({ frames := 0, cells := 0, slots := 0, locals := 0 } : Room) (PcR G ad cI cZ σ [.ref (ad 0), .int a1, .int a2]) (vp_Si (fun r => r = out)) 0 0 (fun _ => False) := by
  refine Met.ofW (cc := prog_9_method_16_code) (maxL := 4) (ret := (some FieldType.boolean)) (by decide) rfl ?_
  intro p e s m args below meth c s₁ B hml hv
  obtain ⟨rfl, hP, hK⟩ := hv
  have hx := B.exec
  have hb := B.bytes
  have hr := B.returns
  have hts0 := atoms_spec (ws := wl_MD_lies) B.pre
  have hts : ∀ w ∈ WG, w.before _ s = true := fun w hw => hts0 w (List.mem_cons_of_mem _ hw)
  have hown : s.vm.findClass "PlaceMovesModel" = some m.cls := findClass_of_methodNamed B.named
  have hlocks := B.notSynchronized
  have C : CX "PlaceMovesModel" prog_9_method_16_code p s m _ c G cI cZ := ⟨hx, hb, hown, hts, hK⟩
  have hl := lv_entry ([.ref (ad 0), .int a1, .int a2]) (n := 4) (Nat.le_of_ble_eq_true rfl)
  rw [lg_entry_eq]
  generalize (lg_sl ([.ref (ad 0), .int a1, .int a2]) ++ List.replicate (4 - (lg_sl ([.ref (ad 0), .int a1, .int a2])).length) Slot.unset).toArray = ls at hl ⊢
  have hl : lv_has ls 4 [(0, .ref (ad 0)), (1, .int a1), (2, .int a2)] := hl
  unfold f_MD_lies at h
  refine lv_iload_n hx hb d_MD_lies_0 rfl (lv_at hl 1 rfl) ?_
  refine lv_istore_n (lv' := [(3, .int a1), (0, .ref (ad 0)), (1, .int a1), (2, .int a2)]) hx hb d_MD_lies_1 rfl hl (by decide) rfl (fun ls hl => ?_)
  have k2 : ∀ (n2 : Nat) (x2 : Int32) (x3 : Int32) (h : L_MD_lies_2 σ n2 x2 x3 = some out) (ls : Array Slot) (hl : lv_has ls 4 [(0, .ref (ad 0)), (2, .int x2), (3, .int x3)]), W p l e (headSpec wl_MD_lies ({ frames := 0, cells := 0, slots := 0, locals := 0 } : Room)).room s m (([.ref (ad 0), .int a1, .int a2] : List Value).toArray) below meth c s.heap [] 0 0 (MQ below (vp_Si (fun r => r = out)) (([.ref (ad 0), .int a1, .int a2] : List Value).toArray) s 0 0 (fun _ => False)) (F0 m 2 ls []) := by
    intro n2
    induction n2 with
    | zero =>
      intro x2 x3 h
      exact absurd h (by intro z; cases z)
    | succ n2 ih2 =>
      intro x2 x3 h ls hl
      replace h : B_MD_lies_2 σ (L_MD_lies_2 σ n2) x2 x3 = some out := h
      unfold B_MD_lies_2 at h
      refine lv_iload_n hx hb d_MD_lies_2 rfl (lv_at hl 2 rfl) ?_
      refine lv_iconst (v := (-1)) hx hb d_MD_lies_3 (by decide) ?_
      refine lv_icmp_eq (tgt := 22) hx hb d_MD_lies_4 (by decide) (fun c1 => ?_) (fun c1 => ?_)
      · rw [if_pos c1] at h
        refine lv_iload_n hx hb d_MD_lies_22 rfl (lv_at hl 2 rfl) ?_
        refine lv_iload_n hx hb d_MD_lies_23 rfl (lv_at hl 1 rfl) ?_
        refine lv_icmp_ne (tgt := 36) hx hb d_MD_lies_24 (by decide) (fun c6 => ?_) (fun c6 => ?_)
        · rw [if_neg c6] at h
          refine lv_iconst (v := 0) hx hb d_MD_lies_36 (by decide) ?_
          exact W.zret hx hb hr rfl (fun t ht _ => ⟨_, rfl, Option.some.inj h, ht⟩) (fun _ hq => nomatch hq) d_MD_lies_37
        · rw [if_pos c6] at h
          refine lv_iload_n hx hb d_MD_lies_27 rfl (lv_at hl 1 rfl) ?_
          refine lv_iconst (v := (-1)) hx hb d_MD_lies_28 (by decide) ?_
          refine lv_icmp_eq (tgt := 36) hx hb d_MD_lies_29 (by decide) (fun c7 => ?_) (fun c7 => ?_)
          · rw [if_pos c7] at h
            refine lv_iconst (v := 0) hx hb d_MD_lies_36 (by decide) ?_
            exact W.zret hx hb hr rfl (fun t ht _ => ⟨_, rfl, Option.some.inj h, ht⟩) (fun _ hq => nomatch hq) d_MD_lies_37
          · rw [if_neg c7] at h
            refine lv_iconst (v := 1) hx hb d_MD_lies_32 (by decide) ?_
            refine lv_goto (tgt := 37) hx hb d_MD_lies_33 (by decide) ?_
            exact W.zret hx hb hr rfl (fun t ht _ => ⟨_, rfl, Option.some.inj h, ht⟩) (fun _ hq => nomatch hq) d_MD_lies_37
      · rw [if_neg c1] at h
        refine lv_iload_n hx hb d_MD_lies_7 rfl (lv_at hl 2 rfl) ?_
        refine lv_iload_n hx hb d_MD_lies_8 rfl (lv_at hl 1 rfl) ?_
        refine lv_icmp_eq (tgt := 22) hx hb d_MD_lies_9 (by decide) (fun c2 => ?_) (fun c2 => ?_)
        · rw [if_pos c2] at h
          refine lv_iload_n hx hb d_MD_lies_22 rfl (lv_at hl 2 rfl) ?_
          refine lv_iload_n hx hb d_MD_lies_23 rfl (lv_at hl 1 rfl) ?_
          refine lv_icmp_ne (tgt := 36) hx hb d_MD_lies_24 (by decide) (fun c4 => ?_) (fun c4 => ?_)
          · rw [if_neg c4] at h
            refine lv_iconst (v := 0) hx hb d_MD_lies_36 (by decide) ?_
            exact W.zret hx hb hr rfl (fun t ht _ => ⟨_, rfl, Option.some.inj h, ht⟩) (fun _ hq => nomatch hq) d_MD_lies_37
          · rw [if_pos c4] at h
            refine lv_iload_n hx hb d_MD_lies_27 rfl (lv_at hl 1 rfl) ?_
            refine lv_iconst (v := (-1)) hx hb d_MD_lies_28 (by decide) ?_
            refine lv_icmp_eq (tgt := 36) hx hb d_MD_lies_29 (by decide) (fun c5 => ?_) (fun c5 => ?_)
            · rw [if_pos c5] at h
              refine lv_iconst (v := 0) hx hb d_MD_lies_36 (by decide) ?_
              exact W.zret hx hb hr rfl (fun t ht _ => ⟨_, rfl, Option.some.inj h, ht⟩) (fun _ hq => nomatch hq) d_MD_lies_37
            · rw [if_neg c5] at h
              refine lv_iconst (v := 1) hx hb d_MD_lies_32 (by decide) ?_
              refine lv_goto (tgt := 37) hx hb d_MD_lies_33 (by decide) ?_
              exact W.zret hx hb hr rfl (fun t ht _ => ⟨_, rfl, Option.some.inj h, ht⟩) (fun _ hq => nomatch hq) d_MD_lies_37
        · rw [if_neg c2] at h
          refine lv_aload_n hx hb d_MD_lies_12 rfl (lv_at hl 0 rfl) ?_
          refine gf_MD_7 C hP d_MD_lies_13 ?_
          refine lv_iload_n hx hb d_MD_lies_16 rfl (lv_at hl 2 rfl) ?_
          obtain ⟨hin, h⟩ := gd_some h
          refine alR_1 C hP hin d_MD_lies_17 ?_
          obtain ⟨y3, e_y3, h⟩ := lt1_some h
          refine W.eq (g2 := F0 m 18 ls (.int y3 :: [])) (by rw [e_y3]) ?_
          refine lv_istore_n (lv' := [(3, .int y3), (0, .ref (ad 0)), (2, .int x2)]) hx hb d_MD_lies_18 rfl hl (by decide) rfl (fun ls hl => ?_)
          refine lv_goto (tgt := 2) hx hb d_MD_lies_19 (by decide) ?_
          exact ih2 x2 y3 h _ (lv_sub hl [1, 2, 0] rfl)
  exact k2 _ a2 a1 h _ (lv_sub hl [1, 3, 0] rfl)
section RC
variable {p : Program} {l : Launch} {e : Env} {R : Room} {s : State} {m : MethodId} {args : Array Value} {below : List Frame} {meth : Method} {c : Code} {H : Heap} {locs : List Loc} {cells slots : Nat} {Q : State → Prop}
variable {cc : ByteArray} {pc : Nat} {ls : Array Slot} {rest : List Value} {G : va_G} {ad : Nat → Nat} {cI cZ : ClassId} {σ : Sg} {own : String}
theorem cl_MD_126 (C : CX "PlaceMovesModel" cc p s m args c G cI cZ) (hml : c.maxLocals = ls.size) (hP : va_P G clX (wR ad cI cZ σ) H) {x1 : Int32} {x2 : Int32} {r : Int32} (hg : f_MD_lies σ x1 x2 = some r) (hR : 0 + 1 ≤ R.frames ∧ 8 + (4 + 11) + 0 ≤ R.locals) (hrest : (rest.map fun v => v.category).sum ≤ 8) (hd : decode cc pc = .ok (.invokevirtual 126, 3)) (hcs : cells + 0 ≤ R.cells ∧ slots + 0 ≤ R.slots) (kk : W p l e R s m args below meth c H locs cells slots Q (F0 m (pc + 3) ls (.int r :: rest))) : W p l e R s m args below meth c H locs cells slots Q (F0 m pc ls (.int x2 :: .int x1 :: .ref (ad 0) :: rest)) :=
  vp_callSi (W.runV (As := [.int x1, .int x2]) (rest := rest) ⟨C.1, C.2.1, hml, C.2.2.1, C.2.2.2.1⟩ (c_MD_lies l G ad cI cZ σ x1 x2 r hg) (cwV 2 C.2.2.2.1 (wg_V w_764 w_766 ws_24 w_8 w_767) rfl rfl rfl (by decide +kernel) hR) ⟨PcR.blind, va_recv C.2.2.2.2.1 hP (ci := 7) (q0 := 0) rfl rfl, fun U hU hW => ⟨rfl, by rw [hU]; exact hP, C.2.2.2.2.warm hW⟩⟩ rfl rfl rfl rfl (lv_room hrest) hd hcs) (fun r' e => by subst e; exact kk)
end RC
