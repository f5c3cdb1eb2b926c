abbrev wl_PM_place : List Cond := .code ⟨"PlaceMoves", "place", "(II)I"⟩ prog_1_method_2_code 3 (some FieldType.int) :: WG
set_option maxHeartbeats 4000000 in
set_option maxRecDepth 100000 in
theorem c_PM_place (l : Launch) (hfl : l.flags = pinnedFlags ++ [noTraceFlag]) (b0 : Nat) (G : va_G) (ad : Nat → Nat) (cI cZ : ClassId) (hD : DX ad) (hb0 : ∀ k, k < 32 → b0 ≤ ad k) (σ : Sg) (a1 : Int32) (a2 : Int32) (out : Nat × Int32 × Sg) (h : f_PM_place σ a1 a2 = some out) : tx_Met l ⟨"PlaceMoves", "place", "(II)I"⟩ wl_PM_place (rmE 8 132 out.1) (PcT b0 G ad cI cZ σ [.ref (ad 0), .int a1, .int a2]) (QXi G ad cI cZ out) (cE out.1) (6 * cE out.1) (AX ad) := by
  refine tx_ofW (cc := prog_1_method_2_code) (maxL := 3) (ret := (some FieldType.int)) (by decide) rfl ?_
  intro p e s m args below meth c s₁ B hml hv
  obtain ⟨rfl, hP, hK, hTE⟩ := hv
  have hx := B.exec
  have hb := B.bytes
  have hr := B.returns
  have hts0 := atoms_spec (ws := wl_PM_place) B.pre
  have hts : ∀ w ∈ WG, w.before _ s = true := fun w hw => hts0 w (List.mem_cons_of_mem _ hw)
  have hne := B.noHandlers (hts0 _ List.mem_cons_self)
  have hown : s.vm.findClass "PlaceMoves" = some m.cls := findClass_of_methodNamed B.named
  have hlocks := B.notSynchronized
  have C : CX "PlaceMoves" prog_1_method_2_code p s m _ c G cI cZ := ⟨hx, hb, hown, hts, hK⟩
  have hl := lv_entry ([.ref (ad 0), .int a1, .int a2]) (n := 3) (Nat.le_of_ble_eq_true rfl)
  rw [lg_entry_eq]
  generalize (lg_sl ([.ref (ad 0), .int a1, .int a2]) ++ List.replicate (3 - (lg_sl ([.ref (ad 0), .int a1, .int a2])).length) Slot.unset).toArray = ls at hl ⊢
  have hl : lv_has ls 3 [(0, .ref (ad 0)), (1, .int a1), (2, .int a2)] := hl
  unfold f_PM_place at h
  have hW : WS G ad cI cZ s σ s.heap [] := ⟨hP, va_S.rf⟩
  refine lv_iload_n hx hb d_PM_place_0 rfl (lv_at hl 1 rfl) ?_
  refine lv_iconst (v := (-1)) hx hb d_PM_place_1 (by decide) ?_
  refine lv_icmp_eq (tgt := 10) hx hb d_PM_place_2 (by decide) (fun c1 => ?_) (fun c1 => ?_)
  · rw [if_pos c1] at h
    have k10 : ∀ (x1 : Int32) (x2 : Int32) (σ : Sg) (h : C_PM_place_10 x1 x2 σ = some out) (H : Heap) (locs : List Loc) (hW : WS G ad cI cZ s σ H locs) (ls : Array Slot) (hl : lv_has ls 3 [(0, .ref (ad 0)), (1, .int x1), (2, .int x2)]), W p l e (headSpec wl_PM_place (rmE 8 132 out.1)).room s m (([.ref (ad 0), .int a1, .int a2] : List Value).toArray) below meth c H locs 0 0 (tx_MQ below (QXi G ad cI cZ out) (([.ref (ad 0), .int a1, .int a2] : List Value).toArray) s (cE out.1) (6 * cE out.1) (AX ad)) (F0 m 10 ls []) := by
      intro x1 x2 σ h H locs hW ls hl
      unfold C_PM_place_10 at h
      refine lv_iload_n hx hb d_PM_place_10 rfl (lv_at hl 2 rfl) ?_
      refine lv_iconst (v := 1) hx hb d_PM_place_11 (by decide) ?_
      refine lv_ldc (v := 1000000000) hx hb hown (hts _ w_289) d_PM_place_12 ?_
      obtain ⟨r6, g_r6, h⟩ := ob_some h
      by_cases z_r6 : r6 = 0
      · rw [if_pos z_r6] at h
        refine cl_PM_68 (rest := []) C hfl (TE.ofS hTE hb0 hW) (hml.trans hl.1.symm) hW.1 g_r6 z_r6 ⟨Nat.le_of_ble_eq_true rfl, Nat.le_of_ble_eq_true rfl⟩ (Nat.le_of_ble_eq_true rfl) d_PM_place_14 ⟨Nat.zero_le _, Nat.zero_le _⟩ ?_
        refine lv_aload_n hx hb d_PM_place_17 rfl (lv_at hl 0 rfl) ?_
        refine gf_PM_10 C hW.1 d_PM_place_18 ?_
        refine gf_PM_72 C hW.1 d_PM_place_21 ?_
        refine lv_bipush (v := 24) hx hb d_PM_place_24 (by decide) ?_
        obtain ⟨r7, g_r7, h⟩ := ob_some h
        by_cases z_r7 : r7 = 0
        · rw [if_pos z_r7] at h
          refine cl_PM_75 (rest := []) C hfl (TE.ofS hTE hb0 hW) (hml.trans hl.1.symm) hW.1 g_r7 z_r7 ⟨Nat.le_of_ble_eq_true rfl, Nat.le_of_ble_eq_true rfl⟩ (Nat.le_of_ble_eq_true rfl) d_PM_place_26 ⟨Nat.zero_le _, Nat.zero_le _⟩ ?_
          refine lv_aload_n hx hb d_PM_place_29 rfl (lv_at hl 0 rfl) ?_
          refine gf_PM_10 C hW.1 d_PM_place_30 ?_
          refine lv_iload_n hx hb d_PM_place_33 rfl (lv_at hl 1 rfl) ?_
          refine lv_iload_n hx hb d_PM_place_34 rfl (lv_at hl 2 rfl) ?_
          obtain ⟨r8, g_r8, h⟩ := ob_some h
          refine cl_PM_79 (rest := []) C hD (hml.trans hl.1.symm) hW g_r8 ⟨Nat.le_of_ble_eq_true rfl, Nat.le_of_ble_eq_true rfl⟩ (Nat.le_of_ble_eq_true rfl) d_PM_place_35 ⟨Nat.zero_le _, Nat.zero_le _⟩ (fun H locs hW => ?_)
          exact tx_leafx (some_fst h) (W.iret hx hb hr (fun t ht _ => qx_i h ht hW) hW.2.2.2 d_PM_place_38)
        · rw [if_neg z_r7] at h
          exact tx_lpx (some_fst h) (cl_PM_75_x (rest := []) C hfl (TE.ofS hTE hb0 hW) (hml.trans hl.1.symm) hW.1 g_r7 z_r7 ⟨Nat.le_of_ble_eq_true rfl, Nat.le_of_ble_eq_true rfl⟩ (Nat.le_of_ble_eq_true rfl) d_PM_place_26 (covers_of_empty hne _) hlocks (cE_x (some_fst h)) (fun _ _ t9 => qx_xi h z_r7 hW t9) hW.2.2.2)
      · rw [if_neg z_r6] at h
        exact tx_lpx (some_fst h) (cl_PM_68_x (rest := []) C hfl (TE.ofS hTE hb0 hW) (hml.trans hl.1.symm) hW.1 g_r6 z_r6 ⟨Nat.le_of_ble_eq_true rfl, Nat.le_of_ble_eq_true rfl⟩ (Nat.le_of_ble_eq_true rfl) d_PM_place_14 (covers_of_empty hne _) hlocks (cE_x (some_fst h)) (fun _ _ t9 => qx_xi h z_r6 hW t9) hW.2.2.2)
    exact k10 a1 a2 σ h _ _ hW _ (lv_sub hl [0, 1, 2] rfl)
  · rw [if_neg c1] at h
    refine lv_aload_n hx hb d_PM_place_5 rfl (lv_at hl 0 rfl) ?_
    refine lv_iload_n hx hb d_PM_place_6 rfl (lv_at hl 1 rfl) ?_
    obtain ⟨r2, g_r2, h⟩ := ob_some h
    by_cases z_r2 : r2 = 0
    · rw [if_pos z_r2] at h
      refine cl_PM_63 (rest := []) C hfl (TE.ofS hTE hb0 hW) (hml.trans hl.1.symm) hW.1 g_r2 z_r2 ⟨Nat.le_of_ble_eq_true rfl, Nat.le_of_ble_eq_true rfl⟩ (Nat.le_of_ble_eq_true rfl) d_PM_place_7 ⟨Nat.zero_le _, Nat.zero_le _⟩ ?_
      have k10 : ∀ (x1 : Int32) (x2 : Int32) (σ : Sg) (h : C_PM_place_10 x1 x2 σ = some out) (H : Heap) (locs : List Loc) (hW : WS G ad cI cZ s σ H locs) (ls : Array Slot) (hl : lv_has ls 3 [(0, .ref (ad 0)), (1, .int x1), (2, .int x2)]), W p l e (headSpec wl_PM_place (rmE 8 132 out.1)).room s m (([.ref (ad 0), .int a1, .int a2] : List Value).toArray) below meth c H locs 0 0 (tx_MQ below (QXi G ad cI cZ out) (([.ref (ad 0), .int a1, .int a2] : List Value).toArray) s (cE out.1) (6 * cE out.1) (AX ad)) (F0 m 10 ls []) := by
        intro x1 x2 σ h H locs hW ls hl
        unfold C_PM_place_10 at h
        refine lv_iload_n hx hb d_PM_place_10 rfl (lv_at hl 2 rfl) ?_
        refine lv_iconst (v := 1) hx hb d_PM_place_11 (by decide) ?_
        refine lv_ldc (v := 1000000000) hx hb hown (hts _ w_289) d_PM_place_12 ?_
        obtain ⟨r3, g_r3, h⟩ := ob_some h
        by_cases z_r3 : r3 = 0
        · rw [if_pos z_r3] at h
          refine cl_PM_68 (rest := []) C hfl (TE.ofS hTE hb0 hW) (hml.trans hl.1.symm) hW.1 g_r3 z_r3 ⟨Nat.le_of_ble_eq_true rfl, Nat.le_of_ble_eq_true rfl⟩ (Nat.le_of_ble_eq_true rfl) d_PM_place_14 ⟨Nat.zero_le _, Nat.zero_le _⟩ ?_
          refine lv_aload_n hx hb d_PM_place_17 rfl (lv_at hl 0 rfl) ?_
          refine gf_PM_10 C hW.1 d_PM_place_18 ?_
          refine gf_PM_72 C hW.1 d_PM_place_21 ?_
          refine lv_bipush (v := 24) hx hb d_PM_place_24 (by decide) ?_
          obtain ⟨r4, g_r4, h⟩ := ob_some h
          by_cases z_r4 : r4 = 0
          · rw [if_pos z_r4] at h
            refine cl_PM_75 (rest := []) C hfl (TE.ofS hTE hb0 hW) (hml.trans hl.1.symm) hW.1 g_r4 z_r4 ⟨Nat.le_of_ble_eq_true rfl, Nat.le_of_ble_eq_true rfl⟩ (Nat.le_of_ble_eq_true rfl) d_PM_place_26 ⟨Nat.zero_le _, Nat.zero_le _⟩ ?_
            refine lv_aload_n hx hb d_PM_place_29 rfl (lv_at hl 0 rfl) ?_
            refine gf_PM_10 C hW.1 d_PM_place_30 ?_
            refine lv_iload_n hx hb d_PM_place_33 rfl (lv_at hl 1 rfl) ?_
            refine lv_iload_n hx hb d_PM_place_34 rfl (lv_at hl 2 rfl) ?_
            obtain ⟨r5, g_r5, h⟩ := ob_some h
            refine cl_PM_79 (rest := []) C hD (hml.trans hl.1.symm) hW g_r5 ⟨Nat.le_of_ble_eq_true rfl, Nat.le_of_ble_eq_true rfl⟩ (Nat.le_of_ble_eq_true rfl) d_PM_place_35 ⟨Nat.zero_le _, Nat.zero_le _⟩ (fun H locs hW => ?_)
            exact tx_leafx (some_fst h) (W.iret hx hb hr (fun t ht _ => qx_i h ht hW) hW.2.2.2 d_PM_place_38)
          · rw [if_neg z_r4] at h
            exact tx_lpx (some_fst h) (cl_PM_75_x (rest := []) C hfl (TE.ofS hTE hb0 hW) (hml.trans hl.1.symm) hW.1 g_r4 z_r4 ⟨Nat.le_of_ble_eq_true rfl, Nat.le_of_ble_eq_true rfl⟩ (Nat.le_of_ble_eq_true rfl) d_PM_place_26 (covers_of_empty hne _) hlocks (cE_x (some_fst h)) (fun _ _ t9 => qx_xi h z_r4 hW t9) hW.2.2.2)
        · rw [if_neg z_r3] at h
          exact tx_lpx (some_fst h) (cl_PM_68_x (rest := []) C hfl (TE.ofS hTE hb0 hW) (hml.trans hl.1.symm) hW.1 g_r3 z_r3 ⟨Nat.le_of_ble_eq_true rfl, Nat.le_of_ble_eq_true rfl⟩ (Nat.le_of_ble_eq_true rfl) d_PM_place_14 (covers_of_empty hne _) hlocks (cE_x (some_fst h)) (fun _ _ t9 => qx_xi h z_r3 hW t9) hW.2.2.2)
      exact k10 a1 a2 σ h _ _ hW _ (lv_sub hl [0, 1, 2] rfl)
    · rw [if_neg z_r2] at h
      exact tx_lpx (some_fst h) (cl_PM_63_x (rest := []) C hfl (TE.ofS hTE hb0 hW) (hml.trans hl.1.symm) hW.1 g_r2 z_r2 ⟨Nat.le_of_ble_eq_true rfl, Nat.le_of_ble_eq_true rfl⟩ (Nat.le_of_ble_eq_true rfl) d_PM_place_7 (covers_of_empty hne _) hlocks (cE_x (some_fst h)) (fun _ _ t9 => qx_xi h z_r2 hW t9) hW.2.2.2)
abbrev wl_PM_object : List Cond := .code ⟨"PlaceMoves", "object", "(IIII)I"⟩ prog_1_method_3_code 5 (some FieldType.int) :: WG
set_option maxHeartbeats 4000000 in
set_option maxRecDepth 100000 in
theorem c_PM_object (l : Launch) (hfl : l.flags = pinnedFlags ++ [noTraceFlag]) (b0 : Nat) (G : va_G) (ad : Nat → Nat) (cI cZ : ClassId) (hD : DX ad) (hb0 : ∀ k, k < 32 → b0 ≤ ad k) (σ : Sg) (a1 : Int32) (a2 : Int32) (a3 : Int32) (a4 : Int32) (out : Nat × Int32 × Sg) (h : f_PM_object σ a1 a2 a3 a4 = some out) : tx_Met l ⟨"PlaceMoves", "object", "(IIII)I"⟩ wl_PM_object (rmE 7 112 out.1) (PcT b0 G ad cI cZ σ [.ref (ad 0), .int a1, .int a2, .int a3, .int a4]) (QXi G ad cI cZ out) (cE out.1) (6 * cE out.1) (AX ad) := by
  refine tx_ofW (cc := prog_1_method_3_code) (maxL := 5) (ret := (some FieldType.int)) (by decide) rfl ?_
  intro p e s m args below meth c s₁ B hml hv
  obtain ⟨rfl, hP, hK, hTE⟩ := hv
  have hx := B.exec
  have hb := B.bytes
  have hr := B.returns
  have hts0 := atoms_spec (ws := wl_PM_object) B.pre
  have hts : ∀ w ∈ WG, w.before _ s = true := fun w hw => hts0 w (List.mem_cons_of_mem _ hw)
  have hne := B.noHandlers (hts0 _ List.mem_cons_self)
  have hown : s.vm.findClass "PlaceMoves" = some m.cls := findClass_of_methodNamed B.named
  have hlocks := B.notSynchronized
  have C : CX "PlaceMoves" prog_1_method_3_code p s m _ c G cI cZ := ⟨hx, hb, hown, hts, hK⟩
  have hl := lv_entry ([.ref (ad 0), .int a1, .int a2, .int a3, .int a4]) (n := 5) (Nat.le_of_ble_eq_true rfl)
  rw [lg_entry_eq]
  generalize (lg_sl ([.ref (ad 0), .int a1, .int a2, .int a3, .int a4]) ++ List.replicate (5 - (lg_sl ([.ref (ad 0), .int a1, .int a2, .int a3, .int a4])).length) Slot.unset).toArray = ls at hl ⊢
  have hl : lv_has ls 5 [(0, .ref (ad 0)), (1, .int a1), (2, .int a2), (3, .int a3), (4, .int a4)] := hl
  unfold f_PM_object at h
  have hW : WS G ad cI cZ s σ s.heap [] := ⟨hP, va_S.rf⟩
  refine lv_iload_n hx hb d_PM_object_0 rfl (lv_at hl 1 rfl) ?_
  refine lv_iconst (v := 1) hx hb d_PM_object_1 (by decide) ?_
  refine lv_sipush (v := 10000) hx hb d_PM_object_2 (by decide) ?_
  obtain ⟨r1, g_r1, h⟩ := ob_some h
  by_cases z_r1 : r1 = 0
  · rw [if_pos z_r1] at h
    refine cl_PM_68 (rest := []) C hfl (TE.ofS hTE hb0 hW) (hml.trans hl.1.symm) hW.1 g_r1 z_r1 ⟨Nat.le_of_ble_eq_true rfl, Nat.le_of_ble_eq_true rfl⟩ (Nat.le_of_ble_eq_true rfl) d_PM_object_5 ⟨Nat.zero_le _, Nat.zero_le _⟩ ?_
    refine lv_iload_n hx hb d_PM_object_8 rfl (lv_at hl 2 rfl) ?_
    refine lv_iconst (v := 1) hx hb d_PM_object_9 (by decide) ?_
    refine lv_sipush (v := 10000) hx hb d_PM_object_10 (by decide) ?_
    obtain ⟨r2, g_r2, h⟩ := ob_some h
    by_cases z_r2 : r2 = 0
    · rw [if_pos z_r2] at h
      refine cl_PM_68 (rest := []) C hfl (TE.ofS hTE hb0 hW) (hml.trans hl.1.symm) hW.1 g_r2 z_r2 ⟨Nat.le_of_ble_eq_true rfl, Nat.le_of_ble_eq_true rfl⟩ (Nat.le_of_ble_eq_true rfl) d_PM_object_13 ⟨Nat.zero_le _, Nat.zero_le _⟩ ?_
      refine lv_iload_n hx hb d_PM_object_16 rfl (lv_at hl 3 rfl) ?_
      refine lv_iconst (v := 1) hx hb d_PM_object_17 (by decide) ?_
      refine lv_sipush (v := 10000) hx hb d_PM_object_18 (by decide) ?_
      obtain ⟨r3, g_r3, h⟩ := ob_some h
      by_cases z_r3 : r3 = 0
      · rw [if_pos z_r3] at h
        refine cl_PM_68 (rest := []) C hfl (TE.ofS hTE hb0 hW) (hml.trans hl.1.symm) hW.1 g_r3 z_r3 ⟨Nat.le_of_ble_eq_true rfl, Nat.le_of_ble_eq_true rfl⟩ (Nat.le_of_ble_eq_true rfl) d_PM_object_21 ⟨Nat.zero_le _, Nat.zero_le _⟩ ?_
        refine lv_iload hx hb d_PM_object_24 (lv_at hl 4 rfl) ?_
        refine lv_iconst (v := 1) hx hb d_PM_object_26 (by decide) ?_
        refine lv_ldc (v := 1000000) hx hb hown (hts _ w_343) d_PM_object_27 ?_
        obtain ⟨r4, g_r4, h⟩ := ob_some h
        by_cases z_r4 : r4 = 0
        · rw [if_pos z_r4] at h
          refine cl_PM_68 (rest := []) C hfl (TE.ofS hTE hb0 hW) (hml.trans hl.1.symm) hW.1 g_r4 z_r4 ⟨Nat.le_of_ble_eq_true rfl, Nat.le_of_ble_eq_true rfl⟩ (Nat.le_of_ble_eq_true rfl) d_PM_object_29 ⟨Nat.zero_le _, Nat.zero_le _⟩ ?_
          refine lv_aload_n hx hb d_PM_object_32 rfl (lv_at hl 0 rfl) ?_
          refine gf_PM_19 C hW.1 d_PM_object_33 ?_
          refine gf_PM_84 C hW.1 d_PM_object_36 ?_
          refine lv_bipush (v := 20) hx hb d_PM_object_39 (by decide) ?_
          obtain ⟨r5, g_r5, h⟩ := ob_some h
          by_cases z_r5 : r5 = 0
          · rw [if_pos z_r5] at h
            refine cl_PM_75 (rest := []) C hfl (TE.ofS hTE hb0 hW) (hml.trans hl.1.symm) hW.1 g_r5 z_r5 ⟨Nat.le_of_ble_eq_true rfl, Nat.le_of_ble_eq_true rfl⟩ (Nat.le_of_ble_eq_true rfl) d_PM_object_41 ⟨Nat.zero_le _, Nat.zero_le _⟩ ?_
            refine lv_aload_n hx hb d_PM_object_44 rfl (lv_at hl 0 rfl) ?_
            refine gf_PM_19 C hW.1 d_PM_object_45 ?_
            refine lv_iload_n hx hb d_PM_object_48 rfl (lv_at hl 1 rfl) ?_
            refine lv_iload_n hx hb d_PM_object_49 rfl (lv_at hl 2 rfl) ?_
            refine lv_iload_n hx hb d_PM_object_50 rfl (lv_at hl 3 rfl) ?_
            refine lv_iload hx hb d_PM_object_51 (lv_at hl 4 rfl) ?_
            obtain ⟨r6, g_r6, h⟩ := ob_some h
            refine cl_PM_85 (rest := []) C hD (hml.trans hl.1.symm) hW g_r6 ⟨Nat.le_of_ble_eq_true rfl, Nat.le_of_ble_eq_true rfl⟩ (Nat.le_of_ble_eq_true rfl) d_PM_object_53 ⟨Nat.zero_le _, Nat.zero_le _⟩ (fun H locs hW => ?_)
            exact tx_leafx (some_fst h) (W.iret hx hb hr (fun t ht _ => qx_i h ht hW) hW.2.2.2 d_PM_object_56)
          · rw [if_neg z_r5] at h
            exact tx_lpx (some_fst h) (cl_PM_75_x (rest := []) C hfl (TE.ofS hTE hb0 hW) (hml.trans hl.1.symm) hW.1 g_r5 z_r5 ⟨Nat.le_of_ble_eq_true rfl, Nat.le_of_ble_eq_true rfl⟩ (Nat.le_of_ble_eq_true rfl) d_PM_object_41 (covers_of_empty hne _) hlocks (cE_x (some_fst h)) (fun _ _ t9 => qx_xi h z_r5 hW t9) hW.2.2.2)
        · rw [if_neg z_r4] at h
          exact tx_lpx (some_fst h) (cl_PM_68_x (rest := []) C hfl (TE.ofS hTE hb0 hW) (hml.trans hl.1.symm) hW.1 g_r4 z_r4 ⟨Nat.le_of_ble_eq_true rfl, Nat.le_of_ble_eq_true rfl⟩ (Nat.le_of_ble_eq_true rfl) d_PM_object_29 (covers_of_empty hne _) hlocks (cE_x (some_fst h)) (fun _ _ t9 => qx_xi h z_r4 hW t9) hW.2.2.2)
      · rw [if_neg z_r3] at h
        exact tx_lpx (some_fst h) (cl_PM_68_x (rest := []) C hfl (TE.ofS hTE hb0 hW) (hml.trans hl.1.symm) hW.1 g_r3 z_r3 ⟨Nat.le_of_ble_eq_true rfl, Nat.le_of_ble_eq_true rfl⟩ (Nat.le_of_ble_eq_true rfl) d_PM_object_21 (covers_of_empty hne _) hlocks (cE_x (some_fst h)) (fun _ _ t9 => qx_xi h z_r3 hW t9) hW.2.2.2)
    · rw [if_neg z_r2] at h
      exact tx_lpx (some_fst h) (cl_PM_68_x (rest := []) C hfl (TE.ofS hTE hb0 hW) (hml.trans hl.1.symm) hW.1 g_r2 z_r2 ⟨Nat.le_of_ble_eq_true rfl, Nat.le_of_ble_eq_true rfl⟩ (Nat.le_of_ble_eq_true rfl) d_PM_object_13 (covers_of_empty hne _) hlocks (cE_x (some_fst h)) (fun _ _ t9 => qx_xi h z_r2 hW t9) hW.2.2.2)
  · rw [if_neg z_r1] at h
    exact tx_lpx (some_fst h) (cl_PM_68_x (rest := []) C hfl (TE.ofS hTE hb0 hW) (hml.trans hl.1.symm) hW.1 g_r1 z_r1 ⟨Nat.le_of_ble_eq_true rfl, Nat.le_of_ble_eq_true rfl⟩ (Nat.le_of_ble_eq_true rfl) d_PM_object_5 (covers_of_empty hne _) hlocks (cE_x (some_fst h)) (fun _ _ t9 => qx_xi h z_r1 hW t9) hW.2.2.2)
abbrev wl_PM_keys : List Cond := .code ⟨"PlaceMoves", "keys", "(II)I"⟩ prog_1_method_4_code 4 (some FieldType.int) :: WG
set_option maxHeartbeats 4000000 in
set_option maxRecDepth 100000 in
theorem c_PM_keys (l : Launch) (hfl : l.flags = pinnedFlags ++ [noTraceFlag]) (b0 : Nat) (G : va_G) (ad : Nat → Nat) (cI cZ : ClassId) (hD : DX ad) (hb0 : ∀ k, k < 32 → b0 ≤ ad k) (σ : Sg) (a1 : Int32) (a2 : Int32) (out : Nat × Int32 × Sg) (h : f_PM_keys σ a1 a2 = some out) : tx_Met l ⟨"PlaceMoves", "keys", "(II)I"⟩ wl_PM_keys (rmE 8 132 out.1) (PcT b0 G ad cI cZ σ [.ref (ad 0), .int a1, .int a2]) (QXi G ad cI cZ out) (cE out.1) (6 * cE out.1) (AX ad) := by
  refine tx_ofW (cc := prog_1_method_4_code) (maxL := 4) (ret := (some FieldType.int)) (by decide) rfl ?_
  intro p e s m args below meth c s₁ B hml hv
  obtain ⟨rfl, hP, hK, hTE⟩ := hv
  have hx := B.exec
  have hb := B.bytes
  have hr := B.returns
  have hts0 := atoms_spec (ws := wl_PM_keys) B.pre
  have hts : ∀ w ∈ WG, w.before _ s = true := fun w hw => hts0 w (List.mem_cons_of_mem _ hw)
  have hne := B.noHandlers (hts0 _ List.mem_cons_self)
  have hown : s.vm.findClass "PlaceMoves" = some m.cls := findClass_of_methodNamed B.named
  have hlocks := B.notSynchronized
  have C : CX "PlaceMoves" prog_1_method_4_code p s m _ c G cI cZ := ⟨hx, hb, hown, hts, hK⟩
  have hl := lv_entry ([.ref (ad 0), .int a1, .int a2]) (n := 4) (Nat.le_of_ble_eq_true rfl)
  rw [lg_entry_eq]
  generalize (lg_sl ([.ref (ad 0), .int a1, .int a2]) ++ List.replicate (4 - (lg_sl ([.ref (ad 0), .int a1, .int a2])).length) Slot.unset).toArray = ls at hl ⊢
  have hl : lv_has ls 4 [(0, .ref (ad 0)), (1, .int a1), (2, .int a2)] := hl
  unfold f_PM_keys at h
  have hW : WS G ad cI cZ s σ s.heap [] := ⟨hP, va_S.rf⟩
  refine lv_aload_n hx hb d_PM_keys_0 rfl (lv_at hl 0 rfl) ?_
  refine lv_iload_n hx hb d_PM_keys_1 rfl (lv_at hl 1 rfl) ?_
  obtain ⟨r1, g_r1, h⟩ := ob_some h
  by_cases z_r1 : r1 = 0
  · rw [if_pos z_r1] at h
    refine cl_PM_88 (rest := []) C hfl (TE.ofS hTE hb0 hW) (hml.trans hl.1.symm) hW.1 g_r1 z_r1 ⟨Nat.le_of_ble_eq_true rfl, Nat.le_of_ble_eq_true rfl⟩ (Nat.le_of_ble_eq_true rfl) d_PM_keys_2 ⟨Nat.zero_le _, Nat.zero_le _⟩ ?_
    refine lv_iload_n hx hb d_PM_keys_5 rfl (lv_at hl 2 rfl) ?_
    refine lv_iconst (v := 0) hx hb d_PM_keys_6 (by decide) ?_
    refine lv_iconst (v := 2) hx hb d_PM_keys_7 (by decide) ?_
    obtain ⟨r2, g_r2, h⟩ := ob_some h
    by_cases z_r2 : r2 = 0
    · rw [if_pos z_r2] at h
      refine cl_PM_68 (rest := []) C hfl (TE.ofS hTE hb0 hW) (hml.trans hl.1.symm) hW.1 g_r2 z_r2 ⟨Nat.le_of_ble_eq_true rfl, Nat.le_of_ble_eq_true rfl⟩ (Nat.le_of_ble_eq_true rfl) d_PM_keys_8 ⟨Nat.zero_le _, Nat.zero_le _⟩ ?_
      refine lv_aload_n hx hb d_PM_keys_11 rfl (lv_at hl 0 rfl) ?_
      refine gf_PM_19 C hW.1 d_PM_keys_12 ?_
      refine gf_PM_91 C hW.1 d_PM_keys_15 ?_
      refine lv_iload_n hx hb d_PM_keys_18 rfl (lv_at hl 1 rfl) ?_
      obtain ⟨hin, h⟩ := gd_some h
      refine al_15 C hW.1 hin d_PM_keys_19 ?_
      obtain ⟨y3, e_y3, h⟩ := lt1_some h
      refine W.eq (g2 := F0 m 20 ls (.int y3 :: [])) (by rw [e_y3]) ?_
      refine lv_istore_n (lv' := [(3, .int y3), (0, .ref (ad 0)), (1, .int a1), (2, .int a2)]) hx hb d_PM_keys_20 rfl hl (by decide) rfl (fun ls hl => ?_)
      refine lv_aload_n hx hb d_PM_keys_21 rfl (lv_at hl 1 rfl) ?_
      refine gf_PM_19 C hW.1 d_PM_keys_22 ?_
      refine gf_PM_91 C hW.1 d_PM_keys_25 ?_
      refine lv_iload_n hx hb d_PM_keys_28 rfl (lv_at hl 2 rfl) ?_
      refine lv_iload_n hx hb d_PM_keys_29 rfl (lv_at hl 3 rfl) ?_
      obtain ⟨hin, h⟩ := gd_some h
      refine as_15 C hD hW hin d_PM_keys_30 (fun H locs hW => ?_)
      obtain ⟨σ4, e_σ4, h⟩ := lt1_some h
      rw [← e_σ4] at hW
      refine lv_iload_n hx hb d_PM_keys_31 rfl (lv_at hl 0 rfl) ?_
      exact tx_leafx (some_fst h) (W.iret hx hb hr (fun t ht _ => qx_i h ht hW) hW.2.2.2 d_PM_keys_32)
    · rw [if_neg z_r2] at h
      exact tx_lpx (some_fst h) (cl_PM_68_x (rest := []) C hfl (TE.ofS hTE hb0 hW) (hml.trans hl.1.symm) hW.1 g_r2 z_r2 ⟨Nat.le_of_ble_eq_true rfl, Nat.le_of_ble_eq_true rfl⟩ (Nat.le_of_ble_eq_true rfl) d_PM_keys_8 (covers_of_empty hne _) hlocks (cE_x (some_fst h)) (fun _ _ t9 => qx_xi h z_r2 hW t9) hW.2.2.2)
  · rw [if_neg z_r1] at h
    exact tx_lpx (some_fst h) (cl_PM_88_x (rest := []) C hfl (TE.ofS hTE hb0 hW) (hml.trans hl.1.symm) hW.1 g_r1 z_r1 ⟨Nat.le_of_ble_eq_true rfl, Nat.le_of_ble_eq_true rfl⟩ (Nat.le_of_ble_eq_true rfl) d_PM_keys_2 (covers_of_empty hne _) hlocks (cE_x (some_fst h)) (fun _ _ t9 => qx_xi h z_r1 hW t9) hW.2.2.2)
abbrev wl_PM_key : List Cond := .code ⟨"PlaceMoves", "key", "(IZ)Z"⟩ prog_1_method_5_code 4 (some FieldType.boolean) :: WG
set_option maxHeartbeats 4000000 in
set_option maxRecDepth 100000 in
theorem c_PM_key (l : Launch) (hfl : l.flags = pinnedFlags ++ [noTraceFlag]) (b0 : Nat) (G : va_G) (ad : Nat → Nat) (cI cZ : ClassId) (hD : DX ad) (hb0 : ∀ k, k < 32 → b0 ≤ ad k) (σ : Sg) (a1 : Int32) (a2 : Int32) (out : Nat × Int32 × Sg) (h : f_PM_key σ a1 a2 = some out) : tx_Met l ⟨"PlaceMoves", "key", "(IZ)Z"⟩ wl_PM_key (rmE 8 132 out.1) (PcT b0 G ad cI cZ σ [.ref (ad 0), .int a1, .int a2]) (QXi G ad cI cZ out) (cE out.1) (6 * cE out.1) (AX ad) := by
  refine tx_ofW (cc := prog_1_method_5_code) (maxL := 4) (ret := (some FieldType.boolean)) (by decide) rfl ?_
  intro p e s m args below meth c s₁ B hml hv
  obtain ⟨rfl, hP, hK, hTE⟩ := hv
  have hx := B.exec
  have hb := B.bytes
  have hr := B.returns
  have hts0 := atoms_spec (ws := wl_PM_key) B.pre
  have hts : ∀ w ∈ WG, w.before _ s = true := fun w hw => hts0 w (List.mem_cons_of_mem _ hw)
  have hne := B.noHandlers (hts0 _ List.mem_cons_self)
  have hown : s.vm.findClass "PlaceMoves" = some m.cls := findClass_of_methodNamed B.named
  have hlocks := B.notSynchronized
  have C : CX "PlaceMoves" prog_1_method_5_code p s m _ c G cI cZ := ⟨hx, hb, hown, hts, hK⟩
  have hl := lv_entry ([.ref (ad 0), .int a1, .int a2]) (n := 4) (Nat.le_of_ble_eq_true rfl)
  rw [lg_entry_eq]
  generalize (lg_sl ([.ref (ad 0), .int a1, .int a2]) ++ List.replicate (4 - (lg_sl ([.ref (ad 0), .int a1, .int a2])).length) Slot.unset).toArray = ls at hl ⊢
  have hl : lv_has ls 4 [(0, .ref (ad 0)), (1, .int a1), (2, .int a2)] := hl
  unfold f_PM_key at h
  have hW : WS G ad cI cZ s σ s.heap [] := ⟨hP, va_S.rf⟩
  refine lv_aload_n hx hb d_PM_key_0 rfl (lv_at hl 0 rfl) ?_
  refine lv_iload_n hx hb d_PM_key_1 rfl (lv_at hl 1 rfl) ?_
  obtain ⟨r1, g_r1, h⟩ := ob_some h
  by_cases z_r1 : r1 = 0
  · rw [if_pos z_r1] at h
    refine cl_PM_94 (rest := []) C hfl (TE.ofS hTE hb0 hW) (hml.trans hl.1.symm) hW.1 g_r1 z_r1 ⟨Nat.le_of_ble_eq_true rfl, Nat.le_of_ble_eq_true rfl⟩ (Nat.le_of_ble_eq_true rfl) d_PM_key_2 ⟨Nat.zero_le _, Nat.zero_le _⟩ ?_
    refine lv_aload_n hx hb d_PM_key_5 rfl (lv_at hl 0 rfl) ?_
    refine gf_PM_51 C hW.1 d_PM_key_6 ?_
    refine lv_iload_n hx hb d_PM_key_9 rfl (lv_at hl 1 rfl) ?_
    obtain ⟨hin, h⟩ := gd_some h
    refine al_7 C hW.1 hin d_PM_key_10 ?_
    refine lv_iload_n hx hb d_PM_key_11 rfl (lv_at hl 2 rfl) ?_
    refine lv_icmp_eq (tgt := 19) hx hb d_PM_key_12 (by decide) (fun c2 => ?_) (fun c2 => ?_)
    · rw [if_pos c2] at h
      refine lv_iconst (v := 0) hx hb d_PM_key_19 (by decide) ?_
      refine lv_istore_n (lv' := [(3, .int 0), (0, .ref (ad 0)), (1, .int a1), (2, .int a2)]) hx hb d_PM_key_20 rfl hl (by decide) rfl (fun ls hl => ?_)
      refine lv_aload_n hx hb d_PM_key_21 rfl (lv_at hl 1 rfl) ?_
      refine gf_PM_51 C hW.1 d_PM_key_22 ?_
      refine lv_iload_n hx hb d_PM_key_25 rfl (lv_at hl 2 rfl) ?_
      refine lv_iload_n hx hb d_PM_key_26 rfl (lv_at hl 3 rfl) ?_
      obtain ⟨hin, h⟩ := gd_some h
      refine as_7 C hD hW hin d_PM_key_27 (fun H locs hW => ?_)
      obtain ⟨σ4, e_σ4, h⟩ := lt1_some h
      rw [← e_σ4] at hW
      refine lv_iload_n hx hb d_PM_key_28 rfl (lv_at hl 0 rfl) ?_
      exact tx_leafx (some_fst h) (W.zret hx hb hr rfl (fun t ht _ => qx_i h ht hW) hW.2.2.2 d_PM_key_29)
    · rw [if_neg c2] at h
      refine lv_iconst (v := 1) hx hb d_PM_key_15 (by decide) ?_
      refine lv_goto (tgt := 20) hx hb d_PM_key_16 (by decide) ?_
      refine lv_istore_n (lv' := [(3, .int 1), (0, .ref (ad 0)), (1, .int a1), (2, .int a2)]) hx hb d_PM_key_20 rfl hl (by decide) rfl (fun ls hl => ?_)
      refine lv_aload_n hx hb d_PM_key_21 rfl (lv_at hl 1 rfl) ?_
      refine gf_PM_51 C hW.1 d_PM_key_22 ?_
      refine lv_iload_n hx hb d_PM_key_25 rfl (lv_at hl 2 rfl) ?_
      refine lv_iload_n hx hb d_PM_key_26 rfl (lv_at hl 3 rfl) ?_
      obtain ⟨hin, h⟩ := gd_some h
      refine as_7 C hD hW hin d_PM_key_27 (fun H locs hW => ?_)
      obtain ⟨σ3, e_σ3, h⟩ := lt1_some h
      rw [← e_σ3] at hW
      refine lv_iload_n hx hb d_PM_key_28 rfl (lv_at hl 0 rfl) ?_
      exact tx_leafx (some_fst h) (W.zret hx hb hr rfl (fun t ht _ => qx_i h ht hW) hW.2.2.2 d_PM_key_29)
  · rw [if_neg z_r1] at h
    exact tx_lpx (some_fst h) (cl_PM_94_x (rest := []) C hfl (TE.ofS hTE hb0 hW) (hml.trans hl.1.symm) hW.1 g_r1 z_r1 ⟨Nat.le_of_ble_eq_true rfl, Nat.le_of_ble_eq_true rfl⟩ (Nat.le_of_ble_eq_true rfl) d_PM_key_2 (covers_of_empty hne _) hlocks (cE_x (some_fst h)) (fun _ _ t9 => qx_xi h z_r1 hW t9) hW.2.2.2)
abbrev wl_PM_box : List Cond := .code ⟨"PlaceMoves", "box", "(I)Z"⟩ prog_1_method_6_code 3 (some FieldType.boolean) :: WG
set_option maxHeartbeats 4000000 in
set_option maxRecDepth 100000 in
theorem c_PM_box (l : Launch) (hfl : l.flags = pinnedFlags ++ [noTraceFlag]) (b0 : Nat) (G : va_G) (ad : Nat → Nat) (cI cZ : ClassId) (hD : DX ad) (hb0 : ∀ k, k < 32 → b0 ≤ ad k) (σ : Sg) (a1 : Int32) (out : Nat × Int32 × Sg) (h : f_PM_box σ a1 = some out) : tx_Met l ⟨"PlaceMoves", "box", "(I)Z"⟩ wl_PM_box (rmE 8 132 out.1) (PcT b0 G ad cI cZ σ [.ref (ad 0), .int a1]) (QXi G ad cI cZ out) (cE out.1) (6 * cE out.1) (AX ad) := by
  refine tx_ofW (cc := prog_1_method_6_code) (maxL := 3) (ret := (some FieldType.boolean)) (by decide) rfl ?_
  intro p e s m args below meth c s₁ B hml hv
  obtain ⟨rfl, hP, hK, hTE⟩ := hv
  have hx := B.exec
  have hb := B.bytes
  have hr := B.returns
  have hts0 := atoms_spec (ws := wl_PM_box) B.pre
  have hts : ∀ w ∈ WG, w.before _ s = true := fun w hw => hts0 w (List.mem_cons_of_mem _ hw)
  have hne := B.noHandlers (hts0 _ List.mem_cons_self)
  have hown : s.vm.findClass "PlaceMoves" = some m.cls := findClass_of_methodNamed B.named
  have hlocks := B.notSynchronized
  have C : CX "PlaceMoves" prog_1_method_6_code p s m _ c G cI cZ := ⟨hx, hb, hown, hts, hK⟩
  have hl := lv_entry ([.ref (ad 0), .int a1]) (n := 3) (Nat.le_of_ble_eq_true rfl)
  rw [lg_entry_eq]
  generalize (lg_sl ([.ref (ad 0), .int a1]) ++ List.replicate (3 - (lg_sl ([.ref (ad 0), .int a1])).length) Slot.unset).toArray = ls at hl ⊢
  have hl : lv_has ls 3 [(0, .ref (ad 0)), (1, .int a1)] := hl
  unfold f_PM_box at h
  have hW : WS G ad cI cZ s σ s.heap [] := ⟨hP, va_S.rf⟩
  refine lv_aload_n hx hb d_PM_box_0 rfl (lv_at hl 0 rfl) ?_
  refine lv_iload_n hx hb d_PM_box_1 rfl (lv_at hl 1 rfl) ?_
  obtain ⟨r1, g_r1, h⟩ := ob_some h
  by_cases z_r1 : r1 = 0
  · rw [if_pos z_r1] at h
    refine cl_PM_88 (rest := []) C hfl (TE.ofS hTE hb0 hW) (hml.trans hl.1.symm) hW.1 g_r1 z_r1 ⟨Nat.le_of_ble_eq_true rfl, Nat.le_of_ble_eq_true rfl⟩ (Nat.le_of_ble_eq_true rfl) d_PM_box_2 ⟨Nat.zero_le _, Nat.zero_le _⟩ ?_
    refine lv_aload_n hx hb d_PM_box_5 rfl (lv_at hl 0 rfl) ?_
    refine gf_PM_19 C hW.1 d_PM_box_6 ?_
    refine gf_PM_97 C hW.1 d_PM_box_9 ?_
    refine lv_iload_n hx hb d_PM_box_12 rfl (lv_at hl 1 rfl) ?_
    obtain ⟨hin, h⟩ := gd_some h
    refine al_16 C hW.1 hin d_PM_box_13 ?_
    refine lv_if_ne (tgt := 21) hx hb d_PM_box_14 (by decide) (fun c2 => ?_) (fun c2 => ?_)
    · rw [if_neg c2] at h
      refine lv_iconst (v := 0) hx hb d_PM_box_21 (by decide) ?_
      refine lv_istore_n (lv' := [(2, .int 0), (0, .ref (ad 0)), (1, .int a1)]) hx hb d_PM_box_22 rfl hl (by decide) rfl (fun ls hl => ?_)
      refine lv_aload_n hx hb d_PM_box_23 rfl (lv_at hl 1 rfl) ?_
      refine gf_PM_19 C hW.1 d_PM_box_24 ?_
      refine gf_PM_97 C hW.1 d_PM_box_27 ?_
      refine lv_iload_n hx hb d_PM_box_30 rfl (lv_at hl 2 rfl) ?_
      refine lv_iconst (v := 1) hx hb d_PM_box_31 (by decide) ?_
      obtain ⟨hin, h⟩ := gd_some h
      refine as_16 C hD hW hin d_PM_box_32 (fun H locs hW => ?_)
      obtain ⟨σ4, e_σ4, h⟩ := lt1_some h
      rw [← e_σ4] at hW
      refine lv_iload_n hx hb d_PM_box_33 rfl (lv_at hl 0 rfl) ?_
      exact tx_leafx (some_fst h) (W.zret hx hb hr rfl (fun t ht _ => qx_i h ht hW) hW.2.2.2 d_PM_box_34)
    · rw [if_pos c2] at h
      refine lv_iconst (v := 1) hx hb d_PM_box_17 (by decide) ?_
      refine lv_goto (tgt := 22) hx hb d_PM_box_18 (by decide) ?_
      refine lv_istore_n (lv' := [(2, .int 1), (0, .ref (ad 0)), (1, .int a1)]) hx hb d_PM_box_22 rfl hl (by decide) rfl (fun ls hl => ?_)
      refine lv_aload_n hx hb d_PM_box_23 rfl (lv_at hl 1 rfl) ?_
      refine gf_PM_19 C hW.1 d_PM_box_24 ?_
      refine gf_PM_97 C hW.1 d_PM_box_27 ?_
      refine lv_iload_n hx hb d_PM_box_30 rfl (lv_at hl 2 rfl) ?_
      refine lv_iconst (v := 1) hx hb d_PM_box_31 (by decide) ?_
      obtain ⟨hin, h⟩ := gd_some h
      refine as_16 C hD hW hin d_PM_box_32 (fun H locs hW => ?_)
      obtain ⟨σ3, e_σ3, h⟩ := lt1_some h
      rw [← e_σ3] at hW
      refine lv_iload_n hx hb d_PM_box_33 rfl (lv_at hl 0 rfl) ?_
      exact tx_leafx (some_fst h) (W.zret hx hb hr rfl (fun t ht _ => qx_i h ht hW) hW.2.2.2 d_PM_box_34)
  · rw [if_neg z_r1] at h
    exact tx_lpx (some_fst h) (cl_PM_88_x (rest := []) C hfl (TE.ofS hTE hb0 hW) (hml.trans hl.1.symm) hW.1 g_r1 z_r1 ⟨Nat.le_of_ble_eq_true rfl, Nat.le_of_ble_eq_true rfl⟩ (Nat.le_of_ble_eq_true rfl) d_PM_box_2 (covers_of_empty hne _) hlocks (cE_x (some_fst h)) (fun _ _ t9 => qx_xi h z_r1 hW t9) hW.2.2.2)
abbrev wl_PM_move : List Cond := .code ⟨"PlaceMoves", "move", "(IIIII)I"⟩ prog_1_method_7_code 6 (some FieldType.int) :: WG
set_option maxHeartbeats 4000000 in
set_option maxRecDepth 100000 in
theorem c_PM_move (l : Launch) (hfl : l.flags = pinnedFlags ++ [noTraceFlag]) (b0 : Nat) (G : va_G) (ad : Nat → Nat) (cI cZ : ClassId) (hD : DX ad) (hb0 : ∀ k, k < 32 → b0 ≤ ad k) (σ : Sg) (a1 : Int32) (a2 : Int32) (a3 : Int32) (a4 : Int32) (a5 : Int32) (out : Nat × Int32 × Sg) (h : f_PM_move σ a1 a2 a3 a4 a5 = some out) : tx_Met l ⟨"PlaceMoves", "move", "(IIIII)I"⟩ wl_PM_move (rmE 8 165 out.1) (PcT b0 G ad cI cZ σ [.ref (ad 0), .int a1, .int a2, .int a3, .int a4, .int a5]) (QXi G ad cI cZ out) (cE out.1) (6 * cE out.1) (AX ad) := by
  refine tx_ofW (cc := prog_1_method_7_code) (maxL := 6) (ret := (some FieldType.int)) (by decide) rfl ?_
  intro p e s m args below meth c s₁ B hml hv
  obtain ⟨rfl, hP, hK, hTE⟩ := hv
  have hx := B.exec
  have hb := B.bytes
  have hr := B.returns
  have hts0 := atoms_spec (ws := wl_PM_move) B.pre
  have hts : ∀ w ∈ WG, w.before _ s = true := fun w hw => hts0 w (List.mem_cons_of_mem _ hw)
  have hne := B.noHandlers (hts0 _ List.mem_cons_self)
  have hown : s.vm.findClass "PlaceMoves" = some m.cls := findClass_of_methodNamed B.named
  have hlocks := B.notSynchronized
  have C : CX "PlaceMoves" prog_1_method_7_code p s m _ c G cI cZ := ⟨hx, hb, hown, hts, hK⟩
  have hl := lv_entry ([.ref (ad 0), .int a1, .int a2, .int a3, .int a4, .int a5]) (n := 6) (Nat.le_of_ble_eq_true rfl)
  rw [lg_entry_eq]
  generalize (lg_sl ([.ref (ad 0), .int a1, .int a2, .int a3, .int a4, .int a5]) ++ List.replicate (6 - (lg_sl ([.ref (ad 0), .int a1, .int a2, .int a3, .int a4, .int a5])).length) Slot.unset).toArray = ls at hl ⊢
  have hl : lv_has ls 6 [(0, .ref (ad 0)), (1, .int a1), (2, .int a2), (3, .int a3), (4, .int a4), (5, .int a5)] := hl
  unfold f_PM_move at h
  have hW : WS G ad cI cZ s σ s.heap [] := ⟨hP, va_S.rf⟩
  refine lv_aload_n hx hb d_PM_move_0 rfl (lv_at hl 0 rfl) ?_
  refine lv_iload_n hx hb d_PM_move_1 rfl (lv_at hl 1 rfl) ?_
  obtain ⟨r1, g_r1, h⟩ := ob_some h
  by_cases z_r1 : r1 = 0
  · rw [if_pos z_r1] at h
    refine cl_PM_88 (rest := []) C hfl (TE.ofS hTE hb0 hW) (hml.trans hl.1.symm) hW.1 g_r1 z_r1 ⟨Nat.le_of_ble_eq_true rfl, Nat.le_of_ble_eq_true rfl⟩ (Nat.le_of_ble_eq_true rfl) d_PM_move_2 ⟨Nat.zero_le _, Nat.zero_le _⟩ ?_
    refine lv_aload_n hx hb d_PM_move_5 rfl (lv_at hl 0 rfl) ?_
    refine lv_iload_n hx hb d_PM_move_6 rfl (lv_at hl 2 rfl) ?_
    obtain ⟨r2, g_r2, h⟩ := ob_some h
    by_cases z_r2 : r2 = 0
    · rw [if_pos z_r2] at h
      refine cl_PM_63 (rest := []) C hfl (TE.ofS hTE hb0 hW) (hml.trans hl.1.symm) hW.1 g_r2 z_r2 ⟨Nat.le_of_ble_eq_true rfl, Nat.le_of_ble_eq_true rfl⟩ (Nat.le_of_ble_eq_true rfl) d_PM_move_7 ⟨Nat.zero_le _, Nat.zero_le _⟩ ?_
      refine lv_aload_n hx hb d_PM_move_10 rfl (lv_at hl 0 rfl) ?_
      refine lv_iload hx hb d_PM_move_11 (lv_at hl 4 rfl) ?_
      obtain ⟨r3, g_r3, h⟩ := ob_some h
      by_cases z_r3 : r3 = 0
      · rw [if_pos z_r3] at h
        refine cl_PM_94 (rest := []) C hfl (TE.ofS hTE hb0 hW) (hml.trans hl.1.symm) hW.1 g_r3 z_r3 ⟨Nat.le_of_ble_eq_true rfl, Nat.le_of_ble_eq_true rfl⟩ (Nat.le_of_ble_eq_true rfl) d_PM_move_13 ⟨Nat.zero_le _, Nat.zero_le _⟩ ?_
        refine lv_aload_n hx hb d_PM_move_16 rfl (lv_at hl 0 rfl) ?_
        refine lv_iload hx hb d_PM_move_17 (lv_at hl 5 rfl) ?_
        obtain ⟨r4, g_r4, h⟩ := ob_some h
        by_cases z_r4 : r4 = 0
        · rw [if_pos z_r4] at h
          refine cl_PM_94 (rest := []) C hfl (TE.ofS hTE hb0 hW) (hml.trans hl.1.symm) hW.1 g_r4 z_r4 ⟨Nat.le_of_ble_eq_true rfl, Nat.le_of_ble_eq_true rfl⟩ (Nat.le_of_ble_eq_true rfl) d_PM_move_19 ⟨Nat.zero_le _, Nat.zero_le _⟩ ?_
          refine lv_iload_n hx hb d_PM_move_22 rfl (lv_at hl 3 rfl) ?_
          refine lv_aload_n hx hb d_PM_move_23 rfl (lv_at hl 0 rfl) ?_
          refine gf_PM_59 C hW.1 d_PM_move_24 ?_
          refine lv_ldc (v := 1000000) hx hb hown (hts _ w_343) d_PM_move_27 ?_
          obtain ⟨r5, g_r5, h⟩ := ob_some h
          by_cases z_r5 : r5 = 0
          · rw [if_pos z_r5] at h
            refine cl_PM_68 (rest := []) C hfl (TE.ofS hTE hb0 hW) (hml.trans hl.1.symm) hW.1 g_r5 z_r5 ⟨Nat.le_of_ble_eq_true rfl, Nat.le_of_ble_eq_true rfl⟩ (Nat.le_of_ble_eq_true rfl) d_PM_move_29 ⟨Nat.zero_le _, Nat.zero_le _⟩ ?_
            refine lv_aload_n hx hb d_PM_move_32 rfl (lv_at hl 0 rfl) ?_
            refine gf_PM_26 C hW.1 d_PM_move_33 ?_
            refine gf_PM_100 C hW.1 d_PM_move_36 ?_
            refine lv_iload_n hx hb d_PM_move_39 rfl (lv_at hl 1 rfl) ?_
            obtain ⟨hin, h⟩ := gd_some h
            refine al_17 C hW.1 hin d_PM_move_40 ?_
            refine lv_bipush (v := 40) hx hb d_PM_move_41 (by decide) ?_
            obtain ⟨r6, g_r6, h⟩ := ob_some h
            by_cases z_r6 : r6 = 0
            · rw [if_pos z_r6] at h
              refine cl_PM_75 (rest := []) C hfl (TE.ofS hTE hb0 hW) (hml.trans hl.1.symm) hW.1 g_r6 z_r6 ⟨Nat.le_of_ble_eq_true rfl, Nat.le_of_ble_eq_true rfl⟩ (Nat.le_of_ble_eq_true rfl) d_PM_move_43 ⟨Nat.zero_le _, Nat.zero_le _⟩ ?_
              refine lv_aload_n hx hb d_PM_move_46 rfl (lv_at hl 0 rfl) ?_
              refine lv_iload_n hx hb d_PM_move_47 rfl (lv_at hl 1 rfl) ?_
              refine lv_iload hx hb d_PM_move_48 (lv_at hl 4 rfl) ?_
              refine lv_iload hx hb d_PM_move_50 (lv_at hl 5 rfl) ?_
              obtain ⟨r7, g_r7, h⟩ := ob_some h
              by_cases z_r7 : r7 = 0
              · rw [if_pos z_r7] at h
                refine cl_PM_102 (rest := []) C hfl (TE.ofS hTE hb0 hW) (hml.trans hl.1.symm) hW.1 g_r7 z_r7 ⟨Nat.le_of_ble_eq_true rfl, Nat.le_of_ble_eq_true rfl⟩ (Nat.le_of_ble_eq_true rfl) d_PM_move_52 ⟨Nat.zero_le _, Nat.zero_le _⟩ ?_
                refine lv_aload_n hx hb d_PM_move_55 rfl (lv_at hl 0 rfl) ?_
                refine lv_aload_n hx hb d_PM_move_56 rfl (lv_at hl 0 rfl) ?_
                refine lv_iload_n hx hb d_PM_move_57 rfl (lv_at hl 1 rfl) ?_
                refine lv_iload_n hx hb d_PM_move_58 rfl (lv_at hl 3 rfl) ?_
                obtain ⟨r8, g_r8, h⟩ := ob_some h
                refine cl_PM_105 (rest := [.ref (ad 0)]) C (hml.trans hl.1.symm) hW.1 g_r8 ⟨Nat.le_of_ble_eq_true rfl, Nat.le_of_ble_eq_true rfl⟩ (Nat.le_of_ble_eq_true rfl) d_PM_move_59 ⟨Nat.zero_le _, Nat.zero_le _⟩ ?_
                refine lv_iload_n hx hb d_PM_move_62 rfl (lv_at hl 2 rfl) ?_
                refine lv_iload_n hx hb d_PM_move_63 rfl (lv_at hl 3 rfl) ?_
                obtain ⟨r9, g_r9, h⟩ := ob_some h
                refine cl_PM_108 (rest := []) C (hml.trans hl.1.symm) hW.1 g_r9 ⟨Nat.le_of_ble_eq_true rfl, Nat.le_of_ble_eq_true rfl⟩ (Nat.le_of_ble_eq_true rfl) d_PM_move_64 ⟨Nat.zero_le _, Nat.zero_le _⟩ ?_
                refine lv_if_eq (tgt := 72) hx hb d_PM_move_67 (by decide) (fun c10 => ?_) (fun c10 => ?_)
                · rw [if_pos c10] at h
                  refine lv_aload_n hx hb d_PM_move_72 rfl (lv_at hl 0 rfl) ?_
                  refine lv_iload_n hx hb d_PM_move_73 rfl (lv_at hl 1 rfl) ?_
                  refine lv_iload_n hx hb d_PM_move_74 rfl (lv_at hl 3 rfl) ?_
                  refine lv_iconst (v := 0) hx hb d_PM_move_75 (by decide) ?_
                  refine lv_iload_n hx hb d_PM_move_76 rfl (lv_at hl 2 rfl) ?_
                  obtain ⟨r11, g_r11, h⟩ := ob_some h
                  refine cl_PM_112 (rest := []) C hD (hml.trans hl.1.symm) hW g_r11 ⟨Nat.le_of_ble_eq_true rfl, Nat.le_of_ble_eq_true rfl⟩ (Nat.le_of_ble_eq_true rfl) d_PM_move_77 ⟨Nat.zero_le _, Nat.zero_le _⟩ (fun H locs hW => ?_)
                  refine lv_if_eq (tgt := 87) hx hb d_PM_move_80 (by decide) (fun c12 => ?_) (fun c12 => ?_)
                  · rw [if_pos c12] at h
                    refine lv_iconst (v := 2) hx hb d_PM_move_87 (by decide) ?_
                    exact tx_leafx (some_fst h) (W.iret hx hb hr (fun t ht _ => qx_i h ht hW) hW.2.2.2 d_PM_move_88)
                  · rw [if_neg c12] at h
                    refine lv_iconst (v := 0) hx hb d_PM_move_83 (by decide) ?_
                    refine lv_goto (tgt := 88) hx hb d_PM_move_84 (by decide) ?_
                    exact tx_leafx (some_fst h) (W.iret hx hb hr (fun t ht _ => qx_i h ht hW) hW.2.2.2 d_PM_move_88)
                · rw [if_neg c10] at h
                  refine lv_iconst (v := 1) hx hb d_PM_move_70 (by decide) ?_
                  exact tx_leafx (some_fst h) (W.iret hx hb hr (fun t ht _ => qx_i h ht hW) hW.2.2.2 d_PM_move_71)
              · rw [if_neg z_r7] at h
                exact tx_lpx (some_fst h) (cl_PM_102_x (rest := []) C hfl (TE.ofS hTE hb0 hW) (hml.trans hl.1.symm) hW.1 g_r7 z_r7 ⟨Nat.le_of_ble_eq_true rfl, Nat.le_of_ble_eq_true rfl⟩ (Nat.le_of_ble_eq_true rfl) d_PM_move_52 (covers_of_empty hne _) hlocks (cE_x (some_fst h)) (fun _ _ t9 => qx_xi h z_r7 hW t9) hW.2.2.2)
            · rw [if_neg z_r6] at h
              exact tx_lpx (some_fst h) (cl_PM_75_x (rest := []) C hfl (TE.ofS hTE hb0 hW) (hml.trans hl.1.symm) hW.1 g_r6 z_r6 ⟨Nat.le_of_ble_eq_true rfl, Nat.le_of_ble_eq_true rfl⟩ (Nat.le_of_ble_eq_true rfl) d_PM_move_43 (covers_of_empty hne _) hlocks (cE_x (some_fst h)) (fun _ _ t9 => qx_xi h z_r6 hW t9) hW.2.2.2)
          · rw [if_neg z_r5] at h
            exact tx_lpx (some_fst h) (cl_PM_68_x (rest := []) C hfl (TE.ofS hTE hb0 hW) (hml.trans hl.1.symm) hW.1 g_r5 z_r5 ⟨Nat.le_of_ble_eq_true rfl, Nat.le_of_ble_eq_true rfl⟩ (Nat.le_of_ble_eq_true rfl) d_PM_move_29 (covers_of_empty hne _) hlocks (cE_x (some_fst h)) (fun _ _ t9 => qx_xi h z_r5 hW t9) hW.2.2.2)
        · rw [if_neg z_r4] at h
          exact tx_lpx (some_fst h) (cl_PM_94_x (rest := []) C hfl (TE.ofS hTE hb0 hW) (hml.trans hl.1.symm) hW.1 g_r4 z_r4 ⟨Nat.le_of_ble_eq_true rfl, Nat.le_of_ble_eq_true rfl⟩ (Nat.le_of_ble_eq_true rfl) d_PM_move_19 (covers_of_empty hne _) hlocks (cE_x (some_fst h)) (fun _ _ t9 => qx_xi h z_r4 hW t9) hW.2.2.2)
      · rw [if_neg z_r3] at h
        exact tx_lpx (some_fst h) (cl_PM_94_x (rest := []) C hfl (TE.ofS hTE hb0 hW) (hml.trans hl.1.symm) hW.1 g_r3 z_r3 ⟨Nat.le_of_ble_eq_true rfl, Nat.le_of_ble_eq_true rfl⟩ (Nat.le_of_ble_eq_true rfl) d_PM_move_13 (covers_of_empty hne _) hlocks (cE_x (some_fst h)) (fun _ _ t9 => qx_xi h z_r3 hW t9) hW.2.2.2)
    · rw [if_neg z_r2] at h
      exact tx_lpx (some_fst h) (cl_PM_63_x (rest := []) C hfl (TE.ofS hTE hb0 hW) (hml.trans hl.1.symm) hW.1 g_r2 z_r2 ⟨Nat.le_of_ble_eq_true rfl, Nat.le_of_ble_eq_true rfl⟩ (Nat.le_of_ble_eq_true rfl) d_PM_move_7 (covers_of_empty hne _) hlocks (cE_x (some_fst h)) (fun _ _ t9 => qx_xi h z_r2 hW t9) hW.2.2.2)
  · rw [if_neg z_r1] at h
    exact tx_lpx (some_fst h) (cl_PM_88_x (rest := []) C hfl (TE.ofS hTE hb0 hW) (hml.trans hl.1.symm) hW.1 g_r1 z_r1 ⟨Nat.le_of_ble_eq_true rfl, Nat.le_of_ble_eq_true rfl⟩ (Nat.le_of_ble_eq_true rfl) d_PM_move_2 (covers_of_empty hne _) hlocks (cE_x (some_fst h)) (fun _ _ t9 => qx_xi h z_r1 hW t9) hW.2.2.2)
