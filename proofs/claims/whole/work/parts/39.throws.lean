abbrev wl_PM_last : List Cond := .code ⟨"PlaceMoves", "last", "(I)I"⟩ prog_1_method_11_code 5 (some FieldType.int) :: WG
set_option maxHeartbeats 4000000 in
set_option maxRecDepth 100000 in
theorem c_PM_last (l : Launch) (hfl : l.flags = pinnedFlags ++ [noTraceFlag]) (b0 : Nat) (G : va_G) (ad : Nat → Nat) (cI cZ : ClassId) (σ : Sg) (a1 : Int32) (out : Nat × Int32) (h : f_PM_last σ a1 = some out) : tx_Met l ⟨"PlaceMoves", "last", "(I)I"⟩ wl_PM_last (rmE 8 132 out.1) (PcT b0 G ad cI cZ σ [.ref (ad 0), .int a1]) (QTi out) (cE out.1) (6 * cE out.1) (fun _ => False) := by
  refine tx_ofW (cc := prog_1_method_11_code) (maxL := 5) (ret := (some FieldType.int)) (by decide) rfl ?_
  intro p e s m args below meth c s₁ B hml hv
  obtain ⟨rfl, hP, hK, hTE⟩ := hv
  have hx := B.exec
  have hb := B.bytes
  have hr := B.returns
  have hts0 := atoms_spec (ws := wl_PM_last) B.pre
  have hts : ∀ w ∈ WG, w.before _ s = true := fun w hw => hts0 w (List.mem_cons_of_mem _ hw)
  have hne := B.noHandlers (hts0 _ List.mem_cons_self)
  have hown : s.vm.findClass "PlaceMoves" = some m.cls := findClass_of_methodNamed B.named
  have hlocks := B.notSynchronized
  have C : CX "PlaceMoves" prog_1_method_11_code p s m _ c G cI cZ := ⟨hx, hb, hown, hts, hK⟩
  have hl := lv_entry ([.ref (ad 0), .int a1]) (n := 5) (Nat.le_of_ble_eq_true rfl)
  rw [lg_entry_eq]
  generalize (lg_sl ([.ref (ad 0), .int a1]) ++ List.replicate (5 - (lg_sl ([.ref (ad 0), .int a1])).length) Slot.unset).toArray = ls at hl ⊢
  have hl : lv_has ls 5 [(0, .ref (ad 0)), (1, .int a1)] := hl
  unfold f_PM_last at h
  refine lv_aload_n hx hb d_PM_last_0 rfl (lv_at hl 0 rfl) ?_
  refine lv_iload_n hx hb d_PM_last_1 rfl (lv_at hl 1 rfl) ?_
  obtain ⟨r1, g_r1, h⟩ := ob_some h
  by_cases z_r1 : r1 = 0
  · rw [if_pos z_r1] at h
    refine cl_PM_88 (rest := []) C hfl hTE (hml.trans hl.1.symm) hP g_r1 z_r1 ⟨Nat.le_of_ble_eq_true rfl, Nat.le_of_ble_eq_true rfl⟩ (Nat.le_of_ble_eq_true rfl) d_PM_last_2 ⟨Nat.zero_le _, Nat.zero_le _⟩ ?_
    refine lv_aload_n hx hb d_PM_last_5 rfl (lv_at hl 0 rfl) ?_
    refine gf_PM_59 C hP d_PM_last_6 ?_
    refine lv_istore_n (lv' := [(2, .int (σ 0 0)), (0, .ref (ad 0)), (1, .int a1)]) hx hb d_PM_last_9 rfl hl (by decide) rfl (fun ls hl => ?_)
    refine lv_iconst (v := 0) hx hb d_PM_last_10 (by decide) ?_
    refine lv_istore_n (lv' := [(3, .int 0), (2, .int (σ 0 0)), (0, .ref (ad 0)), (1, .int a1)]) hx hb d_PM_last_11 rfl hl (by decide) rfl (fun ls hl => ?_)
    have k12 : ∀ (n : Nat) (x1 : Int32) (x2 : Int32) (x3 : Int32) (h : L_PM_last_12 σ n x1 x2 x3 = some out) (ls : Array Slot) (hl : lv_has ls 5 [(0, .ref (ad 0)), (1, .int x1), (2, .int x2), (3, .int x3)]), W p l e (headSpec wl_PM_last (rmE 8 132 out.1)).room s m (([.ref (ad 0), .int a1] : List Value).toArray) below meth c s.heap [] 0 0 (tx_MQ below (QTi out) (([.ref (ad 0), .int a1] : List Value).toArray) s (cE out.1) (6 * cE out.1) (fun _ => False)) (F0 m 12 ls []) := by
      intro n
      induction n with
      | zero =>
        intro x1 x2 x3 h
        exact absurd h (by intro z; cases z)
      | succ n ih =>
        intro x1 x2 x3 h ls hl
        replace h : B_PM_last_12 σ (L_PM_last_12 σ n) x1 x2 x3 = some out := h
        unfold B_PM_last_12 at h
        refine lv_iload_n hx hb d_PM_last_12 rfl (lv_at hl 3 rfl) ?_
        refine lv_sipush (v := 800) hx hb d_PM_last_13 (by decide) ?_
        refine lv_icmp_gt (tgt := 55) hx hb d_PM_last_16 (by decide) (fun c2 => ?_) (fun c2 => ?_)
        · rw [if_pos c2] at h
          refine lv_iconst (v := (-1)) hx hb d_PM_last_55 (by decide) ?_
          exact tx_leafi h (W.iret hx hb hr (fun t ht _ => qt_i h ht) (fun _ hq => nomatch hq) d_PM_last_56)
        · rw [if_neg c2] at h
          refine lv_iload_n hx hb d_PM_last_19 rfl (lv_at hl 2 rfl) ?_
          refine lv_if_lt (tgt := 55) hx hb d_PM_last_20 (by decide) (fun c3 => ?_) (fun c3 => ?_)
          · rw [if_pos c3] at h
            refine lv_iconst (v := (-1)) hx hb d_PM_last_55 (by decide) ?_
            exact tx_leafi h (W.iret hx hb hr (fun t ht _ => qt_i h ht) (fun _ hq => nomatch hq) d_PM_last_56)
          · rw [if_neg c3] at h
            refine lv_aload_n hx hb d_PM_last_23 rfl (lv_at hl 0 rfl) ?_
            refine lv_iload_n hx hb d_PM_last_24 rfl (lv_at hl 1 rfl) ?_
            refine lv_iload_n hx hb d_PM_last_25 rfl (lv_at hl 2 rfl) ?_
            obtain ⟨r4, g_r4, h⟩ := ob_some h
            refine cl_PM_105 (rest := []) C (hml.trans hl.1.symm) hP g_r4 ⟨Nat.le_of_ble_eq_true rfl, Nat.le_of_ble_eq_true rfl⟩ (Nat.le_of_ble_eq_true rfl) d_PM_last_26 ⟨Nat.zero_le _, Nat.zero_le _⟩ ?_
            refine lv_istore (lv' := [(4, .int r4), (0, .ref (ad 0)), (1, .int x1), (2, .int x2), (3, .int x3)]) hx hb d_PM_last_29 hl (by decide) rfl (fun ls hl => ?_)
            refine lv_iload hx hb d_PM_last_31 (lv_at hl 0 rfl) ?_
            refine lv_iconst (v := (-1)) hx hb d_PM_last_33 (by decide) ?_
            refine lv_icmp_eq (tgt := 40) hx hb d_PM_last_34 (by decide) (fun c5 => ?_) (fun c5 => ?_)
            · rw [if_pos c5] at h
              refine lv_aload_n hx hb d_PM_last_40 rfl (lv_at hl 1 rfl) ?_
              refine lv_iload_n hx hb d_PM_last_41 rfl (lv_at hl 2 rfl) ?_
              refine lv_iload_n hx hb d_PM_last_42 rfl (lv_at hl 3 rfl) ?_
              obtain ⟨r6, g_r6, h⟩ := ob_some h
              refine cl_PM_129 (rest := []) C (hml.trans hl.1.symm) hP g_r6 ⟨Nat.le_of_ble_eq_true rfl, Nat.le_of_ble_eq_true rfl⟩ (Nat.le_of_ble_eq_true rfl) d_PM_last_43 ⟨Nat.zero_le _, Nat.zero_le _⟩ ?_
              refine lv_iconst (v := 1) hx hb d_PM_last_46 (by decide) ?_
              refine lv_isub hx hb d_PM_last_47 ?_
              refine lv_istore_n (lv' := [(2, .int (r6 - 1)), (4, .int r4), (0, .ref (ad 0)), (1, .int x1), (3, .int x3)]) hx hb d_PM_last_48 rfl hl (by decide) rfl (fun ls hl => ?_)
              refine lv_iinc (v := x3 + 1) (lv' := [(3, .int (x3 + 1)), (2, .int (r6 - 1)), (4, .int r4), (0, .ref (ad 0)), (1, .int x1)]) hx hb d_PM_last_49 hl (k := 4) rfl rfl (by decide) rfl (fun ls hl => ?_)
              refine lv_goto (tgt := 12) hx hb d_PM_last_52 (by decide) ?_
              exact ih x1 (r6 - 1) (x3 + 1) h _ (lv_sub hl [3, 4, 1, 0] rfl)
            · rw [if_neg c5] at h
              refine lv_iload hx hb d_PM_last_37 (lv_at hl 0 rfl) ?_
              exact tx_leafi h (W.iret hx hb hr (fun t ht _ => qt_i h ht) (fun _ hq => nomatch hq) d_PM_last_39)
    exact k12 _ a1 (σ 0 0) 0 h _ (lv_sub hl [2, 3, 1, 0] rfl)
  · rw [if_neg z_r1] at h
    exact tx_lpi h (cl_PM_88_x (rest := []) C hfl hTE (hml.trans hl.1.symm) hP g_r1 z_r1 ⟨Nat.le_of_ble_eq_true rfl, Nat.le_of_ble_eq_true rfl⟩ (Nat.le_of_ble_eq_true rfl) d_PM_last_2 (covers_of_empty hne _) hlocks (cE_i h) (fun _ _ t9 => qt_xi h z_r1 t9))
abbrev wl_PM_history : List Cond := .code ⟨"PlaceMoves", "history", "(III)I"⟩ prog_1_method_12_code 5 (some FieldType.int) :: WG
set_option maxHeartbeats 4000000 in
set_option maxRecDepth 100000 in
theorem c_PM_history (l : Launch) (hfl : l.flags = pinnedFlags ++ [noTraceFlag]) (b0 : Nat) (G : va_G) (ad : Nat → Nat) (cI cZ : ClassId) (σ : Sg) (a1 : Int32) (a2 : Int32) (a3 : Int32) (out : Nat × Int32) (h : f_PM_history σ a1 a2 a3 = some out) : tx_Met l ⟨"PlaceMoves", "history", "(III)I"⟩ wl_PM_history (rmE 8 132 out.1) (PcT b0 G ad cI cZ σ [.ref (ad 0), .int a1, .int a2, .int a3]) (QTi out) (cE out.1) (6 * cE out.1) (fun _ => False) := by
  refine tx_ofW (cc := prog_1_method_12_code) (maxL := 5) (ret := (some FieldType.int)) (by decide) rfl ?_
  intro p e s m args below meth c s₁ B hml hv
  obtain ⟨rfl, hP, hK, hTE⟩ := hv
  have hx := B.exec
  have hb := B.bytes
  have hr := B.returns
  have hts0 := atoms_spec (ws := wl_PM_history) B.pre
  have hts : ∀ w ∈ WG, w.before _ s = true := fun w hw => hts0 w (List.mem_cons_of_mem _ hw)
  have hne := B.noHandlers (hts0 _ List.mem_cons_self)
  have hown : s.vm.findClass "PlaceMoves" = some m.cls := findClass_of_methodNamed B.named
  have hlocks := B.notSynchronized
  have C : CX "PlaceMoves" prog_1_method_12_code p s m _ c G cI cZ := ⟨hx, hb, hown, hts, hK⟩
  have hl := lv_entry ([.ref (ad 0), .int a1, .int a2, .int a3]) (n := 5) (Nat.le_of_ble_eq_true rfl)
  rw [lg_entry_eq]
  generalize (lg_sl ([.ref (ad 0), .int a1, .int a2, .int a3]) ++ List.replicate (5 - (lg_sl ([.ref (ad 0), .int a1, .int a2, .int a3])).length) Slot.unset).toArray = ls at hl ⊢
  have hl : lv_has ls 5 [(0, .ref (ad 0)), (1, .int a1), (2, .int a2), (3, .int a3)] := hl
  unfold f_PM_history at h
  refine lv_aload_n hx hb d_PM_history_0 rfl (lv_at hl 0 rfl) ?_
  refine lv_iload_n hx hb d_PM_history_1 rfl (lv_at hl 1 rfl) ?_
  obtain ⟨r1, g_r1, h⟩ := ob_some h
  by_cases z_r1 : r1 = 0
  · rw [if_pos z_r1] at h
    refine cl_PM_88 (rest := []) C hfl hTE (hml.trans hl.1.symm) hP g_r1 z_r1 ⟨Nat.le_of_ble_eq_true rfl, Nat.le_of_ble_eq_true rfl⟩ (Nat.le_of_ble_eq_true rfl) d_PM_history_2 ⟨Nat.zero_le _, Nat.zero_le _⟩ ?_
    refine lv_iload_n hx hb d_PM_history_5 rfl (lv_at hl 2 rfl) ?_
    refine lv_aload_n hx hb d_PM_history_6 rfl (lv_at hl 0 rfl) ?_
    refine gf_PM_26 C hP d_PM_history_7 ?_
    refine gf_PM_100 C hP d_PM_history_10 ?_
    refine lv_iload_n hx hb d_PM_history_13 rfl (lv_at hl 1 rfl) ?_
    obtain ⟨hin, h⟩ := gd_some h
    refine al_17 C hP hin d_PM_history_14 ?_
    obtain ⟨r2, g_r2, h⟩ := ob_some h
    by_cases z_r2 : r2 = 0
    · rw [if_pos z_r2] at h
      refine cl_PM_132 (rest := []) C hfl hTE (hml.trans hl.1.symm) hP g_r2 z_r2 ⟨Nat.le_of_ble_eq_true rfl, Nat.le_of_ble_eq_true rfl⟩ (Nat.le_of_ble_eq_true rfl) d_PM_history_15 ⟨Nat.zero_le _, Nat.zero_le _⟩ ?_
      refine lv_iload_n hx hb d_PM_history_18 rfl (lv_at hl 3 rfl) ?_
      refine lv_iconst (v := 0) hx hb d_PM_history_19 (by decide) ?_
      refine lv_iconst (v := 2) hx hb d_PM_history_20 (by decide) ?_
      obtain ⟨r3, g_r3, h⟩ := ob_some h
      by_cases z_r3 : r3 = 0
      · rw [if_pos z_r3] at h
        refine cl_PM_68 (rest := []) C hfl hTE (hml.trans hl.1.symm) hP g_r3 z_r3 ⟨Nat.le_of_ble_eq_true rfl, Nat.le_of_ble_eq_true rfl⟩ (Nat.le_of_ble_eq_true rfl) d_PM_history_21 ⟨Nat.zero_le _, Nat.zero_le _⟩ ?_
        refine lv_iload_n hx hb d_PM_history_24 rfl (lv_at hl 1 rfl) ?_
        refine lv_iload_n hx hb d_PM_history_25 rfl (lv_at hl 2 rfl) ?_
        obtain ⟨r4, g_r4, h⟩ := ob_some h
        refine cl_PM_135 (rest := []) C (hml.trans hl.1.symm) hP g_r4 ⟨Nat.le_of_ble_eq_true rfl, Nat.le_of_ble_eq_true rfl⟩ (Nat.le_of_ble_eq_true rfl) d_PM_history_26 ⟨Nat.zero_le _, Nat.zero_le _⟩ ?_
        refine lv_istore (lv' := [(4, .int r4), (0, .ref (ad 0)), (1, .int a1), (2, .int a2), (3, .int a3)]) hx hb d_PM_history_29 hl (by decide) rfl (fun ls hl => ?_)
        refine lv_iload_n hx hb d_PM_history_31 rfl (lv_at hl 4 rfl) ?_
        refine lv_if_ne (tgt := 46) hx hb d_PM_history_32 (by decide) (fun c5 => ?_) (fun c5 => ?_)
        · rw [if_neg c5] at h
          refine lv_iload_n hx hb d_PM_history_46 rfl (lv_at hl 4 rfl) ?_
          refine lv_iconst (v := 1) hx hb d_PM_history_47 (by decide) ?_
          refine lv_icmp_ne (tgt := 64) hx hb d_PM_history_48 (by decide) (fun c6 => ?_) (fun c6 => ?_)
          · rw [if_neg c6] at h
            refine lv_aload_n hx hb d_PM_history_64 rfl (lv_at hl 1 rfl) ?_
            refine gf_PM_26 C hP d_PM_history_65 ?_
            refine gf_PM_141 C hP d_PM_history_68 ?_
            refine lv_iload hx hb d_PM_history_71 (lv_at hl 0 rfl) ?_
            obtain ⟨hin, h⟩ := gd_some h
            refine al_20 C hP hin d_PM_history_73 ?_
            exact tx_leafi h (W.iret hx hb hr (fun t ht _ => qt_i h ht) (fun _ hq => nomatch hq) d_PM_history_74)
          · rw [if_pos c6] at h
            refine lv_aload_n hx hb d_PM_history_51 rfl (lv_at hl 1 rfl) ?_
            refine gf_PM_26 C hP d_PM_history_52 ?_
            refine gf_PM_126 C hP d_PM_history_55 ?_
            refine lv_iload hx hb d_PM_history_58 (lv_at hl 0 rfl) ?_
            obtain ⟨hin, h⟩ := gd_some h
            refine al_19 C hP hin d_PM_history_60 ?_
            refine lv_goto (tgt := 74) hx hb d_PM_history_61 (by decide) ?_
            exact tx_leafi h (W.iret hx hb hr (fun t ht _ => qt_i h ht) (fun _ hq => nomatch hq) d_PM_history_74)
        · rw [if_pos c5] at h
          refine lv_aload_n hx hb d_PM_history_35 rfl (lv_at hl 1 rfl) ?_
          refine gf_PM_26 C hP d_PM_history_36 ?_
          refine gf_PM_138 C hP d_PM_history_39 ?_
          refine lv_iload hx hb d_PM_history_42 (lv_at hl 0 rfl) ?_
          obtain ⟨hin, h⟩ := gd_some h
          refine al_18 C hP hin d_PM_history_44 ?_
          exact tx_leafi h (W.iret hx hb hr (fun t ht _ => qt_i h ht) (fun _ hq => nomatch hq) d_PM_history_45)
      · rw [if_neg z_r3] at h
        exact tx_lpi h (cl_PM_68_x (rest := []) C hfl hTE (hml.trans hl.1.symm) hP g_r3 z_r3 ⟨Nat.le_of_ble_eq_true rfl, Nat.le_of_ble_eq_true rfl⟩ (Nat.le_of_ble_eq_true rfl) d_PM_history_21 (covers_of_empty hne _) hlocks (cE_i h) (fun _ _ t9 => qt_xi h z_r3 t9))
    · rw [if_neg z_r2] at h
      exact tx_lpi h (cl_PM_132_x (rest := []) C hfl hTE (hml.trans hl.1.symm) hP g_r2 z_r2 ⟨Nat.le_of_ble_eq_true rfl, Nat.le_of_ble_eq_true rfl⟩ (Nat.le_of_ble_eq_true rfl) d_PM_history_15 (covers_of_empty hne _) hlocks (cE_i h) (fun _ _ t9 => qt_xi h z_r2 t9))
  · rw [if_neg z_r1] at h
    exact tx_lpi h (cl_PM_88_x (rest := []) C hfl hTE (hml.trans hl.1.symm) hP g_r1 z_r1 ⟨Nat.le_of_ble_eq_true rfl, Nat.le_of_ble_eq_true rfl⟩ (Nat.le_of_ble_eq_true rfl) d_PM_history_2 (covers_of_empty hne _) hlocks (cE_i h) (fun _ _ t9 => qt_xi h z_r1 t9))
abbrev wl_PM_passes : List Cond := .code ⟨"PlaceMoves", "passes", "(II)Z"⟩ prog_1_method_14_code 3 (some FieldType.boolean) :: WG
set_option maxHeartbeats 4000000 in
set_option maxRecDepth 100000 in
theorem c_PM_passes (l : Launch) (hfl : l.flags = pinnedFlags ++ [noTraceFlag]) (b0 : Nat) (G : va_G) (ad : Nat → Nat) (cI cZ : ClassId) (σ : Sg) (a1 : Int32) (a2 : Int32) (out : Nat × Int32) (h : f_PM_passes σ a1 a2 = some out) : tx_Met l ⟨"PlaceMoves", "passes", "(II)Z"⟩ wl_PM_passes (rmE 8 132 out.1) (PcT b0 G ad cI cZ σ [.ref (ad 0), .int a1, .int a2]) (QTi out) (cE out.1) (6 * cE out.1) (fun _ => False) := by
  refine tx_ofW (cc := prog_1_method_14_code) (maxL := 3) (ret := (some FieldType.boolean)) (by decide) rfl ?_
  intro p e s m args below meth c s₁ B hml hv
  obtain ⟨rfl, hP, hK, hTE⟩ := hv
  have hx := B.exec
  have hb := B.bytes
  have hr := B.returns
  have hts0 := atoms_spec (ws := wl_PM_passes) B.pre
  have hts : ∀ w ∈ WG, w.before _ s = true := fun w hw => hts0 w (List.mem_cons_of_mem _ hw)
  have hne := B.noHandlers (hts0 _ List.mem_cons_self)
  have hown : s.vm.findClass "PlaceMoves" = some m.cls := findClass_of_methodNamed B.named
  have hlocks := B.notSynchronized
  have C : CX "PlaceMoves" prog_1_method_14_code p s m _ c G cI cZ := ⟨hx, hb, hown, hts, hK⟩
  have hl := lv_entry ([.ref (ad 0), .int a1, .int a2]) (n := 3) (Nat.le_of_ble_eq_true rfl)
  rw [lg_entry_eq]
  generalize (lg_sl ([.ref (ad 0), .int a1, .int a2]) ++ List.replicate (3 - (lg_sl ([.ref (ad 0), .int a1, .int a2])).length) Slot.unset).toArray = ls at hl ⊢
  have hl : lv_has ls 3 [(0, .ref (ad 0)), (1, .int a1), (2, .int a2)] := hl
  unfold f_PM_passes at h
  refine lv_aload_n hx hb d_PM_passes_0 rfl (lv_at hl 0 rfl) ?_
  refine lv_iload_n hx hb d_PM_passes_1 rfl (lv_at hl 1 rfl) ?_
  obtain ⟨r1, g_r1, h⟩ := ob_some h
  by_cases z_r1 : r1 = 0
  · rw [if_pos z_r1] at h
    refine cl_PM_88 (rest := []) C hfl hTE (hml.trans hl.1.symm) hP g_r1 z_r1 ⟨Nat.le_of_ble_eq_true rfl, Nat.le_of_ble_eq_true rfl⟩ (Nat.le_of_ble_eq_true rfl) d_PM_passes_2 ⟨Nat.zero_le _, Nat.zero_le _⟩ ?_
    refine lv_iload_n hx hb d_PM_passes_5 rfl (lv_at hl 2 rfl) ?_
    refine lv_aload_n hx hb d_PM_passes_6 rfl (lv_at hl 0 rfl) ?_
    refine gf_PM_33 C hP d_PM_passes_7 ?_
    refine gf_PM_151 C hP d_PM_passes_10 ?_
    obtain ⟨r2, g_r2, h⟩ := ob_some h
    by_cases z_r2 : r2 = 0
    · rw [if_pos z_r2] at h
      refine cl_PM_132 (rest := []) C hfl hTE (hml.trans hl.1.symm) hP g_r2 z_r2 ⟨Nat.le_of_ble_eq_true rfl, Nat.le_of_ble_eq_true rfl⟩ (Nat.le_of_ble_eq_true rfl) d_PM_passes_13 ⟨Nat.zero_le _, Nat.zero_le _⟩ ?_
      refine lv_aload_n hx hb d_PM_passes_16 rfl (lv_at hl 0 rfl) ?_
      refine lv_iload_n hx hb d_PM_passes_17 rfl (lv_at hl 1 rfl) ?_
      refine lv_iload_n hx hb d_PM_passes_18 rfl (lv_at hl 2 rfl) ?_
      obtain ⟨r3, g_r3, h⟩ := ob_some h
      refine cl_PM_153 (rest := []) C (hml.trans hl.1.symm) hP g_r3 ⟨Nat.le_of_ble_eq_true rfl, Nat.le_of_ble_eq_true rfl⟩ (Nat.le_of_ble_eq_true rfl) d_PM_passes_19 ⟨Nat.zero_le _, Nat.zero_le _⟩ ?_
      obtain ⟨hin, h⟩ := gd_some h
      exact tx_leafi h (W.zret hx hb hr (isB_nar hin) (fun t ht _ => qt_i h ht) (fun _ hq => nomatch hq) d_PM_passes_22)
    · rw [if_neg z_r2] at h
      exact tx_lpi h (cl_PM_132_x (rest := []) C hfl hTE (hml.trans hl.1.symm) hP g_r2 z_r2 ⟨Nat.le_of_ble_eq_true rfl, Nat.le_of_ble_eq_true rfl⟩ (Nat.le_of_ble_eq_true rfl) d_PM_passes_13 (covers_of_empty hne _) hlocks (cE_i h) (fun _ _ t9 => qt_xi h z_r2 t9))
  · rw [if_neg z_r1] at h
    exact tx_lpi h (cl_PM_88_x (rest := []) C hfl hTE (hml.trans hl.1.symm) hP g_r1 z_r1 ⟨Nat.le_of_ble_eq_true rfl, Nat.le_of_ble_eq_true rfl⟩ (Nat.le_of_ble_eq_true rfl) d_PM_passes_2 (covers_of_empty hne _) hlocks (cE_i h) (fun _ _ t9 => qt_xi h z_r1 t9))
abbrev wl_PM_way : List Cond := .code ⟨"PlaceMoves", "way", "(II)I"⟩ prog_1_method_15_code 4 (some FieldType.int) :: WG
set_option maxHeartbeats 4000000 in
set_option maxRecDepth 100000 in
theorem c_PM_way (l : Launch) (hfl : l.flags = pinnedFlags ++ [noTraceFlag]) (b0 : Nat) (G : va_G) (ad : Nat → Nat) (cI cZ : ClassId) (σ : Sg) (a1 : Int32) (a2 : Int32) (out : Nat × Int32) (h : f_PM_way σ a1 a2 = some out) : tx_Met l ⟨"PlaceMoves", "way", "(II)I"⟩ wl_PM_way (rmE 8 132 out.1) (PcT b0 G ad cI cZ σ [.ref (ad 0), .int a1, .int a2]) (QTi out) (cE out.1) (6 * cE out.1) (fun _ => False) := by
  refine tx_ofW (cc := prog_1_method_15_code) (maxL := 4) (ret := (some FieldType.int)) (by decide) rfl ?_
  intro p e s m args below meth c s₁ B hml hv
  obtain ⟨rfl, hP, hK, hTE⟩ := hv
  have hx := B.exec
  have hb := B.bytes
  have hr := B.returns
  have hts0 := atoms_spec (ws := wl_PM_way) B.pre
  have hts : ∀ w ∈ WG, w.before _ s = true := fun w hw => hts0 w (List.mem_cons_of_mem _ hw)
  have hne := B.noHandlers (hts0 _ List.mem_cons_self)
  have hown : s.vm.findClass "PlaceMoves" = some m.cls := findClass_of_methodNamed B.named
  have hlocks := B.notSynchronized
  have C : CX "PlaceMoves" prog_1_method_15_code p s m _ c G cI cZ := ⟨hx, hb, hown, hts, hK⟩
  have hl := lv_entry ([.ref (ad 0), .int a1, .int a2]) (n := 4) (Nat.le_of_ble_eq_true rfl)
  rw [lg_entry_eq]
  generalize (lg_sl ([.ref (ad 0), .int a1, .int a2]) ++ List.replicate (4 - (lg_sl ([.ref (ad 0), .int a1, .int a2])).length) Slot.unset).toArray = ls at hl ⊢
  have hl : lv_has ls 4 [(0, .ref (ad 0)), (1, .int a1), (2, .int a2)] := hl
  unfold f_PM_way at h
  refine lv_aload_n hx hb d_PM_way_0 rfl (lv_at hl 0 rfl) ?_
  refine lv_iload_n hx hb d_PM_way_1 rfl (lv_at hl 1 rfl) ?_
  obtain ⟨r1, g_r1, h⟩ := ob_some h
  by_cases z_r1 : r1 = 0
  · rw [if_pos z_r1] at h
    refine cl_PM_88 (rest := []) C hfl hTE (hml.trans hl.1.symm) hP g_r1 z_r1 ⟨Nat.le_of_ble_eq_true rfl, Nat.le_of_ble_eq_true rfl⟩ (Nat.le_of_ble_eq_true rfl) d_PM_way_2 ⟨Nat.zero_le _, Nat.zero_le _⟩ ?_
    refine lv_aload_n hx hb d_PM_way_5 rfl (lv_at hl 0 rfl) ?_
    refine lv_iload_n hx hb d_PM_way_6 rfl (lv_at hl 2 rfl) ?_
    obtain ⟨r2, g_r2, h⟩ := ob_some h
    by_cases z_r2 : r2 = 0
    · rw [if_pos z_r2] at h
      refine cl_PM_63 (rest := []) C hfl hTE (hml.trans hl.1.symm) hP g_r2 z_r2 ⟨Nat.le_of_ble_eq_true rfl, Nat.le_of_ble_eq_true rfl⟩ (Nat.le_of_ble_eq_true rfl) d_PM_way_7 ⟨Nat.zero_le _, Nat.zero_le _⟩ ?_
      refine lv_aload_n hx hb d_PM_way_10 rfl (lv_at hl 0 rfl) ?_
      refine lv_iload_n hx hb d_PM_way_11 rfl (lv_at hl 1 rfl) ?_
      refine lv_aload_n hx hb d_PM_way_12 rfl (lv_at hl 0 rfl) ?_
      refine gf_PM_59 C hP d_PM_way_13 ?_
      obtain ⟨r3, g_r3, h⟩ := ob_some h
      refine cl_PM_105 (rest := []) C (hml.trans hl.1.symm) hP g_r3 ⟨Nat.le_of_ble_eq_true rfl, Nat.le_of_ble_eq_true rfl⟩ (Nat.le_of_ble_eq_true rfl) d_PM_way_16 ⟨Nat.zero_le _, Nat.zero_le _⟩ ?_
      refine lv_istore_n (lv' := [(3, .int r3), (0, .ref (ad 0)), (1, .int a1), (2, .int a2)]) hx hb d_PM_way_19 rfl hl (by decide) rfl (fun ls hl => ?_)
      refine lv_iload_n hx hb d_PM_way_20 rfl (lv_at hl 0 rfl) ?_
      refine lv_iconst (v := (-1)) hx hb d_PM_way_21 (by decide) ?_
      refine lv_icmp_ne (tgt := 29) hx hb d_PM_way_22 (by decide) (fun c4 => ?_) (fun c4 => ?_)
      · rw [if_neg c4] at h
        refine lv_aload_n hx hb d_PM_way_29 rfl (lv_at hl 1 rfl) ?_
        refine lv_iload_n hx hb d_PM_way_30 rfl (lv_at hl 0 rfl) ?_
        refine lv_iload_n hx hb d_PM_way_31 rfl (lv_at hl 3 rfl) ?_
        refine lv_aload_n hx hb d_PM_way_32 rfl (lv_at hl 1 rfl) ?_
        refine lv_iload_n hx hb d_PM_way_33 rfl (lv_at hl 2 rfl) ?_
        obtain ⟨r5, g_r5, h⟩ := ob_some h
        refine cl_PM_156 (rest := [.int a2, .int r3, .ref (ad 0)]) C (hml.trans hl.1.symm) hP g_r5 ⟨Nat.le_of_ble_eq_true rfl, Nat.le_of_ble_eq_true rfl⟩ (Nat.le_of_ble_eq_true rfl) d_PM_way_34 ⟨Nat.zero_le _, Nat.zero_le _⟩ ?_
        obtain ⟨r6, g_r6, h⟩ := ob_some h
        refine cl_PM_160 (rest := []) C (hml.trans hl.1.symm) hP g_r6 ⟨Nat.le_of_ble_eq_true rfl, Nat.le_of_ble_eq_true rfl⟩ (Nat.le_of_ble_eq_true rfl) d_PM_way_37 ⟨Nat.zero_le _, Nat.zero_le _⟩ ?_
        exact tx_leafi h (W.iret hx hb hr (fun t ht _ => qt_i h ht) (fun _ hq => nomatch hq) d_PM_way_40)
      · rw [if_pos c4] at h
        refine lv_iconst (v := (-1)) hx hb d_PM_way_25 (by decide) ?_
        refine lv_goto (tgt := 40) hx hb d_PM_way_26 (by decide) ?_
        exact tx_leafi h (W.iret hx hb hr (fun t ht _ => qt_i h ht) (fun _ hq => nomatch hq) d_PM_way_40)
    · rw [if_neg z_r2] at h
      exact tx_lpi h (cl_PM_63_x (rest := []) C hfl hTE (hml.trans hl.1.symm) hP g_r2 z_r2 ⟨Nat.le_of_ble_eq_true rfl, Nat.le_of_ble_eq_true rfl⟩ (Nat.le_of_ble_eq_true rfl) d_PM_way_7 (covers_of_empty hne _) hlocks (cE_i h) (fun _ _ t9 => qt_xi h z_r2 t9))
  · rw [if_neg z_r1] at h
    exact tx_lpi h (cl_PM_88_x (rest := []) C hfl hTE (hml.trans hl.1.symm) hP g_r1 z_r1 ⟨Nat.le_of_ble_eq_true rfl, Nat.le_of_ble_eq_true rfl⟩ (Nat.le_of_ble_eq_true rfl) d_PM_way_2 (covers_of_empty hne _) hlocks (cE_i h) (fun _ _ t9 => qt_xi h z_r1 t9))
abbrev wl_PM_count : List Cond := .code ⟨"PlaceMoves", "count", "(I)I"⟩ prog_1_method_19_code 2 (some FieldType.int) :: WG
set_option maxHeartbeats 4000000 in
set_option maxRecDepth 100000 in
theorem c_PM_count (l : Launch) (hfl : l.flags = pinnedFlags ++ [noTraceFlag]) (b0 : Nat) (G : va_G) (ad : Nat → Nat) (cI cZ : ClassId) (σ : Sg) (a1 : Int32) (out : Nat × Int32) (h : f_PM_count σ a1 = some out) : tx_Met l ⟨"PlaceMoves", "count", "(I)I"⟩ wl_PM_count (rmE 6 90 out.1) (PcT b0 G ad cI cZ σ [.ref (ad 0), .int a1]) (QTi out) (cE out.1) (6 * cE out.1) (fun _ => False) := by
  refine tx_ofW (cc := prog_1_method_19_code) (maxL := 2) (ret := (some FieldType.int)) (by decide) rfl ?_
  intro p e s m args below meth c s₁ B hml hv
  obtain ⟨rfl, hP, hK, hTE⟩ := hv
  have hx := B.exec
  have hb := B.bytes
  have hr := B.returns
  have hts0 := atoms_spec (ws := wl_PM_count) B.pre
  have hts : ∀ w ∈ WG, w.before _ s = true := fun w hw => hts0 w (List.mem_cons_of_mem _ hw)
  have hne := B.noHandlers (hts0 _ List.mem_cons_self)
  have hown : s.vm.findClass "PlaceMoves" = some m.cls := findClass_of_methodNamed B.named
  have hlocks := B.notSynchronized
  have C : CX "PlaceMoves" prog_1_method_19_code p s m _ c G cI cZ := ⟨hx, hb, hown, hts, hK⟩
  have hl := lv_entry ([.ref (ad 0), .int a1]) (n := 2) (Nat.le_of_ble_eq_true rfl)
  rw [lg_entry_eq]
  generalize (lg_sl ([.ref (ad 0), .int a1]) ++ List.replicate (2 - (lg_sl ([.ref (ad 0), .int a1])).length) Slot.unset).toArray = ls at hl ⊢
  have hl : lv_has ls 2 [(0, .ref (ad 0)), (1, .int a1)] := hl
  unfold f_PM_count at h
  refine lv_iload_n hx hb d_PM_count_0 rfl (lv_at hl 1 rfl) ?_
  by_cases e1 : a1 = 0
  · rw [if_pos e1] at h
    refine lv_tableIn (off := 39) (tgt := 40) hx hb d_PM_count_1 (by rw [e1]; decide) (by rw [e1]; decide) (by rw [e1]; decide) (by decide) ?_
    refine lv_aload_n hx hb d_PM_count_40 rfl (lv_at hl 0 rfl) ?_
    refine gf_PM_10 C hP d_PM_count_41 ?_
    refine gf_PM_72 C hP d_PM_count_44 ?_
    exact tx_leafi h (W.iret hx hb hr (fun t ht _ => qt_i h ht) (fun _ hq => nomatch hq) d_PM_count_47)
  · rw [if_neg e1] at h
    by_cases e2 : a1 = 1
    · rw [if_pos e2] at h
      refine lv_tableIn (off := 47) (tgt := 48) hx hb d_PM_count_1 (by rw [e2]; decide) (by rw [e2]; decide) (by rw [e2]; decide) (by decide) ?_
      refine lv_aload_n hx hb d_PM_count_48 rfl (lv_at hl 0 rfl) ?_
      refine gf_PM_19 C hP d_PM_count_49 ?_
      refine gf_PM_84 C hP d_PM_count_52 ?_
      exact tx_leafi h (W.iret hx hb hr (fun t ht _ => qt_i h ht) (fun _ hq => nomatch hq) d_PM_count_55)
    · rw [if_neg e2] at h
      by_cases e3 : a1 = 2
      · rw [if_pos e3] at h
        refine lv_tableIn (off := 55) (tgt := 56) hx hb d_PM_count_1 (by rw [e3]; decide) (by rw [e3]; decide) (by rw [e3]; decide) (by decide) ?_
        refine lv_aload_n hx hb d_PM_count_56 rfl (lv_at hl 0 rfl) ?_
        refine gf_PM_33 C hP d_PM_count_57 ?_
        refine gf_PM_151 C hP d_PM_count_60 ?_
        exact tx_leafi h (W.iret hx hb hr (fun t ht _ => qt_i h ht) (fun _ hq => nomatch hq) d_PM_count_63)
      · rw [if_neg e3] at h
        by_cases e4 : a1 = 3
        · rw [if_pos e4] at h
          refine lv_tableIn (off := 63) (tgt := 64) hx hb d_PM_count_1 (by rw [e4]; decide) (by rw [e4]; decide) (by rw [e4]; decide) (by decide) ?_
          refine lv_aload_n hx hb d_PM_count_64 rfl (lv_at hl 0 rfl) ?_
          refine gf_PM_40 C hP d_PM_count_65 ?_
          refine gf_PM_164 C hP d_PM_count_68 ?_
          exact tx_leafi h (W.iret hx hb hr (fun t ht _ => qt_i h ht) (fun _ hq => nomatch hq) d_PM_count_71)
        · rw [if_neg e4] at h
          by_cases e5 : a1 = 4
          · rw [if_pos e5] at h
            refine lv_tableIn (off := 71) (tgt := 72) hx hb d_PM_count_1 (by rw [e5]; decide) (by rw [e5]; decide) (by rw [e5]; decide) (by decide) ?_
            refine lv_aload_n hx hb d_PM_count_72 rfl (lv_at hl 0 rfl) ?_
            refine gf_PM_59 C hP d_PM_count_73 ?_
            exact tx_leafi h (W.iret hx hb hr (fun t ht _ => qt_i h ht) (fun _ hq => nomatch hq) d_PM_count_76)
          · rw [if_neg e5] at h
            by_cases e6 : a1 = 5
            · rw [if_pos e6] at h
              refine lv_tableIn (off := 76) (tgt := 77) hx hb d_PM_count_1 (by rw [e6]; decide) (by rw [e6]; decide) (by rw [e6]; decide) (by decide) ?_
              refine lv_aload_n hx hb d_PM_count_77 rfl (lv_at hl 0 rfl) ?_
              refine gf_PM_26 C hP d_PM_count_78 ?_
              refine gf_PM_186 C hP d_PM_count_81 ?_
              exact tx_leafi h (W.iret hx hb hr (fun t ht _ => qt_i h ht) (fun _ hq => nomatch hq) d_PM_count_84)
            · rw [if_neg e6] at h
              have o_e1 : (a1).toInt ≠ 0 := fun q9 => e1 (Int32.toInt_inj.mp (q9.trans (by decide)))
              have o_e2 : (a1).toInt ≠ 1 := fun q9 => e2 (Int32.toInt_inj.mp (q9.trans (by decide)))
              have o_e3 : (a1).toInt ≠ 2 := fun q9 => e3 (Int32.toInt_inj.mp (q9.trans (by decide)))
              have o_e4 : (a1).toInt ≠ 3 := fun q9 => e4 (Int32.toInt_inj.mp (q9.trans (by decide)))
              have o_e5 : (a1).toInt ≠ 4 := fun q9 => e5 (Int32.toInt_inj.mp (q9.trans (by decide)))
              have o_e6 : (a1).toInt ≠ 5 := fun q9 => e6 (Int32.toInt_inj.mp (q9.trans (by decide)))
              refine lv_tableOut (tgt := 85) hx hb d_PM_count_1 (by omega) (by decide) ?_
              exact tx_lni h (by decide) (nw_PM_144_189 C hfl hTE (hml.trans hl.1.symm) d_PM_count_85 d_PM_count_88 d_PM_count_89 d_PM_count_91 d_PM_count_94 (covers_of_empty hne _) hlocks (cE_i1 h (by decide)) ⟨Nat.le_of_ble_eq_true rfl, Nat.le_of_ble_eq_true rfl⟩ (Nat.le_of_ble_eq_true rfl) (fun t t9 => qt_xi h (by decide) t9))
