abbrev wl_MD_through : List Cond := .code ⟨"PlaceMovesModel", "through", "(II)Z"⟩ prog_9_method_35_code 6 (some FieldType.boolean) :: WG
set_option maxHeartbeats 4000000 in
set_option maxRecDepth 100000 in
theorem c_MD_through (l : Launch) (G : va_G) (ad : Nat → Nat) (cI cZ : ClassId) (σ : Sg) (a1 : Int32) (a2 : Int32) (out : Int32) (h : f_MD_through σ a1 a2 = some out) : Met l ⟨"PlaceMovesModel", "through", "(II)Z"⟩ wl_MD_through ({ frames := 1, cells := 0, slots := 0, locals := 38 } : Room) (PcR G ad cI cZ σ [.ref (ad 0), .int a1, .int a2]) (vp_Si (fun r => r = out)) 0 0 (fun _ => False) := by
  refine Met.ofW (cc := prog_9_method_35_code) (maxL := 6) (ret := (some FieldType.boolean)) (by decide) rfl ?_
  intro p e s m args below meth c s₁ B hml hv
  obtain ⟨rfl, hP, hK⟩ := hv
  have hx := B.exec
  have hb := B.bytes
  have hr := B.returns
  have hts0 := atoms_spec (ws := wl_MD_through) B.pre
  have hts : ∀ w ∈ WG, w.before _ s = true := fun w hw => hts0 w (List.mem_cons_of_mem _ hw)
  have hown : s.vm.findClass "PlaceMovesModel" = some m.cls := findClass_of_methodNamed B.named
  have hlocks := B.notSynchronized
  have C : CX "PlaceMovesModel" prog_9_method_35_code p s m _ c G cI cZ := ⟨hx, hb, hown, hts, hK⟩
  have hl := lv_entry ([.ref (ad 0), .int a1, .int a2]) (n := 6) (Nat.le_of_ble_eq_true rfl)
  rw [lg_entry_eq]
  generalize (lg_sl ([.ref (ad 0), .int a1, .int a2]) ++ List.replicate (6 - (lg_sl ([.ref (ad 0), .int a1, .int a2])).length) Slot.unset).toArray = ls at hl ⊢
  have hl : lv_has ls 6 [(0, .ref (ad 0)), (1, .int a1), (2, .int a2)] := hl
  unfold f_MD_through at h
  refine lv_aload_n hx hb d_MD_through_0 rfl (lv_at hl 0 rfl) ?_
  refine gf_MD_16 C hP d_MD_through_1 ?_
  refine lv_iconst (v := 3) hx hb d_MD_through_4 (by decide) ?_
  refine lv_iload_n hx hb d_MD_through_5 rfl (lv_at hl 1 rfl) ?_
  refine lv_imul hx hb d_MD_through_6 ?_
  obtain ⟨hin, h⟩ := gd_some h
  refine alR_3 C hP hin d_MD_through_7 ?_
  obtain ⟨y1, e_y1, h⟩ := lt1_some h
  refine W.eq (g2 := F0 m 8 ls (.int y1 :: [])) (by rw [e_y1]) ?_
  refine lv_istore_n (lv' := [(3, .int y1), (0, .ref (ad 0)), (1, .int a1), (2, .int a2)]) hx hb d_MD_through_8 rfl hl (by decide) rfl (fun ls hl => ?_)
  refine lv_aload_n hx hb d_MD_through_9 rfl (lv_at hl 1 rfl) ?_
  refine gf_MD_16 C hP d_MD_through_10 ?_
  refine lv_iconst (v := 3) hx hb d_MD_through_13 (by decide) ?_
  refine lv_iload_n hx hb d_MD_through_14 rfl (lv_at hl 2 rfl) ?_
  refine lv_imul hx hb d_MD_through_15 ?_
  refine lv_iconst (v := 1) hx hb d_MD_through_16 (by decide) ?_
  refine lv_iadd hx hb d_MD_through_17 ?_
  obtain ⟨hin, h⟩ := gd_some h
  refine alR_3 C hP hin d_MD_through_18 ?_
  obtain ⟨y2, e_y2, h⟩ := lt1_some h
  refine W.eq (g2 := F0 m 19 ls (.int y2 :: [])) (by rw [e_y2]) ?_
  refine lv_istore (lv' := [(4, .int y2), (3, .int y1), (0, .ref (ad 0)), (1, .int a1), (2, .int a2)]) hx hb d_MD_through_19 hl (by decide) rfl (fun ls hl => ?_)
  refine lv_aload_n hx hb d_MD_through_21 rfl (lv_at hl 2 rfl) ?_
  refine gf_MD_16 C hP d_MD_through_22 ?_
  refine lv_iconst (v := 3) hx hb d_MD_through_25 (by decide) ?_
  refine lv_iload_n hx hb d_MD_through_26 rfl (lv_at hl 3 rfl) ?_
  refine lv_imul hx hb d_MD_through_27 ?_
  refine lv_iconst (v := 2) hx hb d_MD_through_28 (by decide) ?_
  refine lv_iadd hx hb d_MD_through_29 ?_
  obtain ⟨hin, h⟩ := gd_some h
  refine alR_3 C hP hin d_MD_through_30 ?_
  obtain ⟨y3, e_y3, h⟩ := lt1_some h
  refine W.eq (g2 := F0 m 31 ls (.int y3 :: [])) (by rw [e_y3]) ?_
  refine lv_istore (lv' := [(5, .int y3), (4, .int y2), (3, .int y1), (0, .ref (ad 0)), (1, .int a1), (2, .int a2)]) hx hb d_MD_through_31 hl (by decide) rfl (fun ls hl => ?_)
  refine lv_iload_n hx hb d_MD_through_33 rfl (lv_at hl 2 rfl) ?_
  refine lv_i2l (v := Int32.toInt64 y1) hx hb d_MD_through_34 rfl ?_
  refine lv_iload hx hb d_MD_through_35 (lv_at hl 1 rfl) ?_
  refine lv_i2l (v := Int32.toInt64 y2) hx hb d_MD_through_37 rfl ?_
  refine lv_aload_n hx hb d_MD_through_38 rfl (lv_at hl 3 rfl) ?_
  refine gf_MD_50 C hP d_MD_through_39 ?_
  refine lv_iload_n hx hb d_MD_through_42 rfl (lv_at hl 5 rfl) ?_
  obtain ⟨hin, h⟩ := gd_some h
  refine alR_14 C hP hin d_MD_through_43 ?_
  refine lv_i2l (v := Int32.toInt64 (σ 14 (Int32.toNatClampNeg a2))) hx hb d_MD_through_44 rfl ?_
  refine lv_aload_n hx hb d_MD_through_45 rfl (lv_at hl 3 rfl) ?_
  refine gf_MD_53 C hP d_MD_through_46 ?_
  refine lv_iload_n hx hb d_MD_through_49 rfl (lv_at hl 5 rfl) ?_
  obtain ⟨hin, h⟩ := gd_some h
  refine alR_15 C hP hin d_MD_through_50 ?_
  refine lv_i2l (v := Int32.toInt64 (σ 15 (Int32.toNatClampNeg a2))) hx hb d_MD_through_51 rfl ?_
  obtain ⟨r4, g_r4, h⟩ := ob_some h
  refine cl_MD_175 (rest := []) C (hml.trans hl.1.symm) hP g_r4 ⟨Nat.le_of_ble_eq_true rfl, Nat.le_of_ble_eq_true rfl⟩ (Nat.le_of_ble_eq_true rfl) d_MD_through_52 ⟨Nat.zero_le _, Nat.zero_le _⟩ ?_
  refine lv_if_ne (tgt := 109) hx hb d_MD_through_55 (by decide) (fun c5 => ?_) (fun c5 => ?_)
  · rw [if_neg c5] at h
    refine lv_iconst (v := 1) hx hb d_MD_through_109 (by decide) ?_
    refine lv_goto (tgt := 114) hx hb d_MD_through_110 (by decide) ?_
    exact W.zret hx hb hr rfl (fun t ht _ => ⟨_, rfl, Option.some.inj h, ht⟩) (fun _ hq => nomatch hq) d_MD_through_114
  · rw [if_pos c5] at h
    refine lv_iload_n hx hb d_MD_through_58 rfl (lv_at hl 2 rfl) ?_
    refine lv_i2l (v := Int32.toInt64 y1) hx hb d_MD_through_59 rfl ?_
    refine lv_iload hx hb d_MD_through_60 (lv_at hl 0 rfl) ?_
    refine lv_i2l (v := Int32.toInt64 y3) hx hb d_MD_through_62 rfl ?_
    refine lv_aload_n hx hb d_MD_through_63 rfl (lv_at hl 3 rfl) ?_
    refine gf_MD_50 C hP d_MD_through_64 ?_
    refine lv_iload_n hx hb d_MD_through_67 rfl (lv_at hl 5 rfl) ?_
    obtain ⟨hin, h⟩ := gd_some h
    refine alR_14 C hP hin d_MD_through_68 ?_
    refine lv_i2l (v := Int32.toInt64 (σ 14 (Int32.toNatClampNeg a2))) hx hb d_MD_through_69 rfl ?_
    refine lv_aload_n hx hb d_MD_through_70 rfl (lv_at hl 3 rfl) ?_
    refine gf_MD_53 C hP d_MD_through_71 ?_
    refine lv_iload_n hx hb d_MD_through_74 rfl (lv_at hl 5 rfl) ?_
    obtain ⟨hin, h⟩ := gd_some h
    refine alR_15 C hP hin d_MD_through_75 ?_
    refine lv_i2l (v := Int32.toInt64 (σ 15 (Int32.toNatClampNeg a2))) hx hb d_MD_through_76 rfl ?_
    obtain ⟨r6, g_r6, h⟩ := ob_some h
    refine cl_MD_175 (rest := []) C (hml.trans hl.1.symm) hP g_r6 ⟨Nat.le_of_ble_eq_true rfl, Nat.le_of_ble_eq_true rfl⟩ (Nat.le_of_ble_eq_true rfl) d_MD_through_77 ⟨Nat.zero_le _, Nat.zero_le _⟩ ?_
    refine lv_if_ne (tgt := 109) hx hb d_MD_through_80 (by decide) (fun c7 => ?_) (fun c7 => ?_)
    · rw [if_neg c7] at h
      refine lv_iconst (v := 1) hx hb d_MD_through_109 (by decide) ?_
      refine lv_goto (tgt := 114) hx hb d_MD_through_110 (by decide) ?_
      exact W.zret hx hb hr rfl (fun t ht _ => ⟨_, rfl, Option.some.inj h, ht⟩) (fun _ hq => nomatch hq) d_MD_through_114
    · rw [if_pos c7] at h
      refine lv_iload hx hb d_MD_through_83 (lv_at hl 1 rfl) ?_
      refine lv_i2l (v := Int32.toInt64 y2) hx hb d_MD_through_85 rfl ?_
      refine lv_iload hx hb d_MD_through_86 (lv_at hl 0 rfl) ?_
      refine lv_i2l (v := Int32.toInt64 y3) hx hb d_MD_through_88 rfl ?_
      refine lv_aload_n hx hb d_MD_through_89 rfl (lv_at hl 3 rfl) ?_
      refine gf_MD_50 C hP d_MD_through_90 ?_
      refine lv_iload_n hx hb d_MD_through_93 rfl (lv_at hl 5 rfl) ?_
      obtain ⟨hin, h⟩ := gd_some h
      refine alR_14 C hP hin d_MD_through_94 ?_
      refine lv_i2l (v := Int32.toInt64 (σ 14 (Int32.toNatClampNeg a2))) hx hb d_MD_through_95 rfl ?_
      refine lv_aload_n hx hb d_MD_through_96 rfl (lv_at hl 3 rfl) ?_
      refine gf_MD_53 C hP d_MD_through_97 ?_
      refine lv_iload_n hx hb d_MD_through_100 rfl (lv_at hl 5 rfl) ?_
      obtain ⟨hin, h⟩ := gd_some h
      refine alR_15 C hP hin d_MD_through_101 ?_
      refine lv_i2l (v := Int32.toInt64 (σ 15 (Int32.toNatClampNeg a2))) hx hb d_MD_through_102 rfl ?_
      obtain ⟨r8, g_r8, h⟩ := ob_some h
      refine cl_MD_175 (rest := []) C (hml.trans hl.1.symm) hP g_r8 ⟨Nat.le_of_ble_eq_true rfl, Nat.le_of_ble_eq_true rfl⟩ (Nat.le_of_ble_eq_true rfl) d_MD_through_103 ⟨Nat.zero_le _, Nat.zero_le _⟩ ?_
      refine lv_if_eq (tgt := 113) hx hb d_MD_through_106 (by decide) (fun c9 => ?_) (fun c9 => ?_)
      · rw [if_pos c9] at h
        refine lv_iconst (v := 0) hx hb d_MD_through_113 (by decide) ?_
        exact W.zret hx hb hr rfl (fun t ht _ => ⟨_, rfl, Option.some.inj h, ht⟩) (fun _ hq => nomatch hq) d_MD_through_114
      · rw [if_neg c9] at h
        refine lv_iconst (v := 1) hx hb d_MD_through_109 (by decide) ?_
        refine lv_goto (tgt := 114) hx hb d_MD_through_110 (by decide) ?_
        exact W.zret hx hb hr rfl (fun t ht _ => ⟨_, rfl, Option.some.inj h, ht⟩) (fun _ hq => nomatch hq) d_MD_through_114
section RC
variable {p : Program} {l : Launch} {e : Env} {R : Room} {s : State} {m : MethodId} {args : Array Value} {below : List Frame} {meth : Method} {c : Code} {H : Heap} {locs : List Loc} {cells slots : Nat} {Q : State → Prop}
variable {cc : ByteArray} {pc : Nat} {ls : Array Slot} {rest : List Value} {G : va_G} {ad : Nat → Nat} {cI cZ : ClassId} {σ : Sg} {own : String}
theorem cl_MD_179 (C : CX "PlaceMovesModel" cc p s m args c G cI cZ) (hml : c.maxLocals = ls.size) (hP : va_P G clX (wR ad cI cZ σ) H) {x1 : Int32} {x2 : Int32} {r : Int32} (hg : f_MD_through σ x1 x2 = some r) (hR : 1 + 1 ≤ R.frames ∧ 8 + (6 + 11) + 38 ≤ R.locals) (hrest : (rest.map fun v => v.category).sum ≤ 8) (hd : decode cc pc = .ok (.invokevirtual 179, 3)) (hcs : cells + 0 ≤ R.cells ∧ slots + 0 ≤ R.slots) (kk : W p l e R s m args below meth c H locs cells slots Q (F0 m (pc + 3) ls (.int r :: rest))) : W p l e R s m args below meth c H locs cells slots Q (F0 m pc ls (.int x2 :: .int x1 :: .ref (ad 0) :: rest)) :=
  vp_callSi (W.runV (As := [.int x1, .int x2]) (rest := rest) ⟨C.1, C.2.1, hml, C.2.2.1, C.2.2.2.1⟩ (c_MD_through l G ad cI cZ σ x1 x2 r hg) (cwV 2 C.2.2.2.1 (wg_V w_828 w_830 ws_33 w_8 w_831) rfl rfl rfl (by decide +kernel) hR) ⟨PcR.blind, va_recv C.2.2.2.2.1 hP (ci := 7) (q0 := 0) rfl rfl, fun U hU hW => ⟨rfl, by rw [hU]; exact hP, C.2.2.2.2.warm hW⟩⟩ rfl rfl rfl rfl (lv_room hrest) hd hcs) (fun r' e => by subst e; exact kk)
end RC
abbrev wl_MD_passes : List Cond := .code ⟨"PlaceMovesModel", "passes", "(II)Z"⟩ prog_9_method_36_code 3 (some FieldType.boolean) :: WG
set_option maxHeartbeats 4000000 in
set_option maxRecDepth 100000 in
theorem c_MD_passes (l : Launch) (G : va_G) (ad : Nat → Nat) (cI cZ : ClassId) (hD : DR ad) (σ : Sg) (a1 : Int32) (a2 : Int32) (out : Int32 × Sg) (h : f_MD_passes σ a1 a2 = some out) : Met l ⟨"PlaceMovesModel", "passes", "(II)Z"⟩ wl_MD_passes ({ frames := 2, cells := 0, slots := 0, locals := 63 } : Room) (PcR G ad cI cZ σ [.ref (ad 0), .int a1, .int a2]) (QRi G ad cI cZ out) 0 0 (AR ad) := by
  refine Met.ofW (cc := prog_9_method_36_code) (maxL := 3) (ret := (some FieldType.boolean)) (by decide) rfl ?_
  intro p e s m args below meth c s₁ B hml hv
  obtain ⟨rfl, hP, hK⟩ := hv
  have hx := B.exec
  have hb := B.bytes
  have hr := B.returns
  have hts0 := atoms_spec (ws := wl_MD_passes) B.pre
  have hts : ∀ w ∈ WG, w.before _ s = true := fun w hw => hts0 w (List.mem_cons_of_mem _ hw)
  have hown : s.vm.findClass "PlaceMovesModel" = some m.cls := findClass_of_methodNamed B.named
  have hlocks := B.notSynchronized
  have C : CX "PlaceMovesModel" prog_9_method_36_code p s m _ c G cI cZ := ⟨hx, hb, hown, hts, hK⟩
  have hl := lv_entry ([.ref (ad 0), .int a1, .int a2]) (n := 3) (Nat.le_of_ble_eq_true rfl)
  rw [lg_entry_eq]
  generalize (lg_sl ([.ref (ad 0), .int a1, .int a2]) ++ List.replicate (3 - (lg_sl ([.ref (ad 0), .int a1, .int a2])).length) Slot.unset).toArray = ls at hl ⊢
  have hl : lv_has ls 3 [(0, .ref (ad 0)), (1, .int a1), (2, .int a2)] := hl
  unfold f_MD_passes at h
  have hW : WR G ad cI cZ s σ s.heap [] := ⟨hP, va_S.rf⟩
  refine lv_aload_n hx hb d_MD_passes_0 rfl (lv_at hl 0 rfl) ?_
  refine lv_aload_n hx hb d_MD_passes_1 rfl (lv_at hl 0 rfl) ?_
  refine lv_iload_n hx hb d_MD_passes_2 rfl (lv_at hl 1 rfl) ?_
  obtain ⟨r1, g_r1, h⟩ := ob_some h
  refine cl_MD_110 (rest := [.ref (ad 0)]) C (hml.trans hl.1.symm) hW.1 g_r1 ⟨Nat.le_of_ble_eq_true rfl, Nat.le_of_ble_eq_true rfl⟩ (Nat.le_of_ble_eq_true rfl) d_MD_passes_3 ⟨Nat.zero_le _, Nat.zero_le _⟩ ?_
  refine lv_if_eq (tgt := 25) hx hb d_MD_passes_6 (by decide) (fun c2 => ?_) (fun c2 => ?_)
  · rw [if_pos c2] at h
    refine lv_iconst (v := 0) hx hb d_MD_passes_25 (by decide) ?_
    have k26 : ∀ (x1 : Int32) (x2 : Int32) (s0 : Int32) (σ : Sg) (h : C_MD_passes_26 x1 x2 s0 σ = some out) (H : Heap) (locs : List Loc) (hW : WR G ad cI cZ s σ H locs) (ls : Array Slot) (hl : lv_has ls 3 [(0, .ref (ad 0)), (1, .int x1), (2, .int x2)]), W p l e (headSpec wl_MD_passes ({ frames := 2, cells := 0, slots := 0, locals := 63 } : Room)).room s m (([.ref (ad 0), .int a1, .int a2] : List Value).toArray) below meth c H locs 0 0 (MQ below (QRi G ad cI cZ out) (([.ref (ad 0), .int a1, .int a2] : List Value).toArray) s 0 0 (AR ad)) (F0 m 26 ls [.int s0, .ref (ad 0)]) := by
      intro x1 x2 s0 σ h H locs hW ls hl
      unfold C_MD_passes_26 at h
      refine lv_iconst (v := 1) hx hb d_MD_passes_26 (by decide) ?_
      refine lv_iconst (v := 1) hx hb d_MD_passes_27 (by decide) ?_
      obtain ⟨r17, g_r17, h⟩ := ob_some h
      refine cl_MD_102 (rest := []) C hD (hml.trans hl.1.symm) hW g_r17 ⟨Nat.le_of_ble_eq_true rfl, Nat.le_of_ble_eq_true rfl⟩ (Nat.le_of_ble_eq_true rfl) d_MD_passes_28 ⟨Nat.zero_le _, Nat.zero_le _⟩ (fun H locs hW => ?_)
      refine lv_if_eq (tgt := 47) hx hb d_MD_passes_31 (by decide) (fun c18 => ?_) (fun c18 => ?_)
      · rw [if_pos c18] at h
        refine lv_iconst (v := 0) hx hb d_MD_passes_47 (by decide) ?_
        exact W.zret hx hb hr rfl (fun t ht _ => qr_i h ht hW) hW.2.2.2 d_MD_passes_48
      · rw [if_neg c18] at h
        refine lv_aload_n hx hb d_MD_passes_34 rfl (lv_at hl 0 rfl) ?_
        refine lv_iload_n hx hb d_MD_passes_35 rfl (lv_at hl 1 rfl) ?_
        refine lv_iload_n hx hb d_MD_passes_36 rfl (lv_at hl 2 rfl) ?_
        obtain ⟨r19, g_r19, h⟩ := ob_some h
        refine cl_MD_179 (rest := []) C (hml.trans hl.1.symm) hW.1 g_r19 ⟨Nat.le_of_ble_eq_true rfl, Nat.le_of_ble_eq_true rfl⟩ (Nat.le_of_ble_eq_true rfl) d_MD_passes_37 ⟨Nat.zero_le _, Nat.zero_le _⟩ ?_
        refine lv_if_eq (tgt := 47) hx hb d_MD_passes_40 (by decide) (fun c20 => ?_) (fun c20 => ?_)
        · rw [if_pos c20] at h
          refine lv_iconst (v := 0) hx hb d_MD_passes_47 (by decide) ?_
          exact W.zret hx hb hr rfl (fun t ht _ => qr_i h ht hW) hW.2.2.2 d_MD_passes_48
        · rw [if_neg c20] at h
          refine lv_iconst (v := 1) hx hb d_MD_passes_43 (by decide) ?_
          refine lv_goto (tgt := 48) hx hb d_MD_passes_44 (by decide) ?_
          exact W.zret hx hb hr rfl (fun t ht _ => qr_i h ht hW) hW.2.2.2 d_MD_passes_48
    exact k26 a1 a2 0 σ h _ _ hW _ (lv_sub hl [0, 1, 2] rfl)
  · rw [if_neg c2] at h
    refine lv_iload_n hx hb d_MD_passes_9 rfl (lv_at hl 2 rfl) ?_
    refine lv_if_lt (tgt := 25) hx hb d_MD_passes_10 (by decide) (fun c3 => ?_) (fun c3 => ?_)
    · rw [if_pos c3] at h
      refine lv_iconst (v := 0) hx hb d_MD_passes_25 (by decide) ?_
      have k26 : ∀ (x1 : Int32) (x2 : Int32) (s0 : Int32) (σ : Sg) (h : C_MD_passes_26 x1 x2 s0 σ = some out) (H : Heap) (locs : List Loc) (hW : WR G ad cI cZ s σ H locs) (ls : Array Slot) (hl : lv_has ls 3 [(0, .ref (ad 0)), (1, .int x1), (2, .int x2)]), W p l e (headSpec wl_MD_passes ({ frames := 2, cells := 0, slots := 0, locals := 63 } : Room)).room s m (([.ref (ad 0), .int a1, .int a2] : List Value).toArray) below meth c H locs 0 0 (MQ below (QRi G ad cI cZ out) (([.ref (ad 0), .int a1, .int a2] : List Value).toArray) s 0 0 (AR ad)) (F0 m 26 ls [.int s0, .ref (ad 0)]) := by
        intro x1 x2 s0 σ h H locs hW ls hl
        unfold C_MD_passes_26 at h
        refine lv_iconst (v := 1) hx hb d_MD_passes_26 (by decide) ?_
        refine lv_iconst (v := 1) hx hb d_MD_passes_27 (by decide) ?_
        obtain ⟨r13, g_r13, h⟩ := ob_some h
        refine cl_MD_102 (rest := []) C hD (hml.trans hl.1.symm) hW g_r13 ⟨Nat.le_of_ble_eq_true rfl, Nat.le_of_ble_eq_true rfl⟩ (Nat.le_of_ble_eq_true rfl) d_MD_passes_28 ⟨Nat.zero_le _, Nat.zero_le _⟩ (fun H locs hW => ?_)
        refine lv_if_eq (tgt := 47) hx hb d_MD_passes_31 (by decide) (fun c14 => ?_) (fun c14 => ?_)
        · rw [if_pos c14] at h
          refine lv_iconst (v := 0) hx hb d_MD_passes_47 (by decide) ?_
          exact W.zret hx hb hr rfl (fun t ht _ => qr_i h ht hW) hW.2.2.2 d_MD_passes_48
        · rw [if_neg c14] at h
          refine lv_aload_n hx hb d_MD_passes_34 rfl (lv_at hl 0 rfl) ?_
          refine lv_iload_n hx hb d_MD_passes_35 rfl (lv_at hl 1 rfl) ?_
          refine lv_iload_n hx hb d_MD_passes_36 rfl (lv_at hl 2 rfl) ?_
          obtain ⟨r15, g_r15, h⟩ := ob_some h
          refine cl_MD_179 (rest := []) C (hml.trans hl.1.symm) hW.1 g_r15 ⟨Nat.le_of_ble_eq_true rfl, Nat.le_of_ble_eq_true rfl⟩ (Nat.le_of_ble_eq_true rfl) d_MD_passes_37 ⟨Nat.zero_le _, Nat.zero_le _⟩ ?_
          refine lv_if_eq (tgt := 47) hx hb d_MD_passes_40 (by decide) (fun c16 => ?_) (fun c16 => ?_)
          · rw [if_pos c16] at h
            refine lv_iconst (v := 0) hx hb d_MD_passes_47 (by decide) ?_
            exact W.zret hx hb hr rfl (fun t ht _ => qr_i h ht hW) hW.2.2.2 d_MD_passes_48
          · rw [if_neg c16] at h
            refine lv_iconst (v := 1) hx hb d_MD_passes_43 (by decide) ?_
            refine lv_goto (tgt := 48) hx hb d_MD_passes_44 (by decide) ?_
            exact W.zret hx hb hr rfl (fun t ht _ => qr_i h ht hW) hW.2.2.2 d_MD_passes_48
      exact k26 a1 a2 0 σ h _ _ hW _ (lv_sub hl [0, 1, 2] rfl)
    · rw [if_neg c3] at h
      refine lv_iload_n hx hb d_MD_passes_13 rfl (lv_at hl 2 rfl) ?_
      refine lv_aload_n hx hb d_MD_passes_14 rfl (lv_at hl 0 rfl) ?_
      refine gf_MD_170 C hW.1 d_MD_passes_15 ?_
      refine lv_icmp_ge (tgt := 25) hx hb d_MD_passes_18 (by decide) (fun c4 => ?_) (fun c4 => ?_)
      · rw [if_pos c4] at h
        refine lv_iconst (v := 0) hx hb d_MD_passes_25 (by decide) ?_
        have k26 : ∀ (x1 : Int32) (x2 : Int32) (s0 : Int32) (σ : Sg) (h : C_MD_passes_26 x1 x2 s0 σ = some out) (H : Heap) (locs : List Loc) (hW : WR G ad cI cZ s σ H locs) (ls : Array Slot) (hl : lv_has ls 3 [(0, .ref (ad 0)), (1, .int x1), (2, .int x2)]), W p l e (headSpec wl_MD_passes ({ frames := 2, cells := 0, slots := 0, locals := 63 } : Room)).room s m (([.ref (ad 0), .int a1, .int a2] : List Value).toArray) below meth c H locs 0 0 (MQ below (QRi G ad cI cZ out) (([.ref (ad 0), .int a1, .int a2] : List Value).toArray) s 0 0 (AR ad)) (F0 m 26 ls [.int s0, .ref (ad 0)]) := by
          intro x1 x2 s0 σ h H locs hW ls hl
          unfold C_MD_passes_26 at h
          refine lv_iconst (v := 1) hx hb d_MD_passes_26 (by decide) ?_
          refine lv_iconst (v := 1) hx hb d_MD_passes_27 (by decide) ?_
          obtain ⟨r9, g_r9, h⟩ := ob_some h
          refine cl_MD_102 (rest := []) C hD (hml.trans hl.1.symm) hW g_r9 ⟨Nat.le_of_ble_eq_true rfl, Nat.le_of_ble_eq_true rfl⟩ (Nat.le_of_ble_eq_true rfl) d_MD_passes_28 ⟨Nat.zero_le _, Nat.zero_le _⟩ (fun H locs hW => ?_)
          refine lv_if_eq (tgt := 47) hx hb d_MD_passes_31 (by decide) (fun c10 => ?_) (fun c10 => ?_)
          · rw [if_pos c10] at h
            refine lv_iconst (v := 0) hx hb d_MD_passes_47 (by decide) ?_
            exact W.zret hx hb hr rfl (fun t ht _ => qr_i h ht hW) hW.2.2.2 d_MD_passes_48
          · rw [if_neg c10] at h
            refine lv_aload_n hx hb d_MD_passes_34 rfl (lv_at hl 0 rfl) ?_
            refine lv_iload_n hx hb d_MD_passes_35 rfl (lv_at hl 1 rfl) ?_
            refine lv_iload_n hx hb d_MD_passes_36 rfl (lv_at hl 2 rfl) ?_
            obtain ⟨r11, g_r11, h⟩ := ob_some h
            refine cl_MD_179 (rest := []) C (hml.trans hl.1.symm) hW.1 g_r11 ⟨Nat.le_of_ble_eq_true rfl, Nat.le_of_ble_eq_true rfl⟩ (Nat.le_of_ble_eq_true rfl) d_MD_passes_37 ⟨Nat.zero_le _, Nat.zero_le _⟩ ?_
            refine lv_if_eq (tgt := 47) hx hb d_MD_passes_40 (by decide) (fun c12 => ?_) (fun c12 => ?_)
            · rw [if_pos c12] at h
              refine lv_iconst (v := 0) hx hb d_MD_passes_47 (by decide) ?_
              exact W.zret hx hb hr rfl (fun t ht _ => qr_i h ht hW) hW.2.2.2 d_MD_passes_48
            · rw [if_neg c12] at h
              refine lv_iconst (v := 1) hx hb d_MD_passes_43 (by decide) ?_
              refine lv_goto (tgt := 48) hx hb d_MD_passes_44 (by decide) ?_
              exact W.zret hx hb hr rfl (fun t ht _ => qr_i h ht hW) hW.2.2.2 d_MD_passes_48
        exact k26 a1 a2 0 σ h _ _ hW _ (lv_sub hl [0, 1, 2] rfl)
      · rw [if_neg c4] at h
        refine lv_iconst (v := 1) hx hb d_MD_passes_21 (by decide) ?_
        refine lv_goto (tgt := 26) hx hb d_MD_passes_22 (by decide) ?_
        have k26 : ∀ (x1 : Int32) (x2 : Int32) (s0 : Int32) (σ : Sg) (h : C_MD_passes_26 x1 x2 s0 σ = some out) (H : Heap) (locs : List Loc) (hW : WR G ad cI cZ s σ H locs) (ls : Array Slot) (hl : lv_has ls 3 [(0, .ref (ad 0)), (1, .int x1), (2, .int x2)]), W p l e (headSpec wl_MD_passes ({ frames := 2, cells := 0, slots := 0, locals := 63 } : Room)).room s m (([.ref (ad 0), .int a1, .int a2] : List Value).toArray) below meth c H locs 0 0 (MQ below (QRi G ad cI cZ out) (([.ref (ad 0), .int a1, .int a2] : List Value).toArray) s 0 0 (AR ad)) (F0 m 26 ls [.int s0, .ref (ad 0)]) := by
          intro x1 x2 s0 σ h H locs hW ls hl
          unfold C_MD_passes_26 at h
          refine lv_iconst (v := 1) hx hb d_MD_passes_26 (by decide) ?_
          refine lv_iconst (v := 1) hx hb d_MD_passes_27 (by decide) ?_
          obtain ⟨r5, g_r5, h⟩ := ob_some h
          refine cl_MD_102 (rest := []) C hD (hml.trans hl.1.symm) hW g_r5 ⟨Nat.le_of_ble_eq_true rfl, Nat.le_of_ble_eq_true rfl⟩ (Nat.le_of_ble_eq_true rfl) d_MD_passes_28 ⟨Nat.zero_le _, Nat.zero_le _⟩ (fun H locs hW => ?_)
          refine lv_if_eq (tgt := 47) hx hb d_MD_passes_31 (by decide) (fun c6 => ?_) (fun c6 => ?_)
          · rw [if_pos c6] at h
            refine lv_iconst (v := 0) hx hb d_MD_passes_47 (by decide) ?_
            exact W.zret hx hb hr rfl (fun t ht _ => qr_i h ht hW) hW.2.2.2 d_MD_passes_48
          · rw [if_neg c6] at h
            refine lv_aload_n hx hb d_MD_passes_34 rfl (lv_at hl 0 rfl) ?_
            refine lv_iload_n hx hb d_MD_passes_35 rfl (lv_at hl 1 rfl) ?_
            refine lv_iload_n hx hb d_MD_passes_36 rfl (lv_at hl 2 rfl) ?_
            obtain ⟨r7, g_r7, h⟩ := ob_some h
            refine cl_MD_179 (rest := []) C (hml.trans hl.1.symm) hW.1 g_r7 ⟨Nat.le_of_ble_eq_true rfl, Nat.le_of_ble_eq_true rfl⟩ (Nat.le_of_ble_eq_true rfl) d_MD_passes_37 ⟨Nat.zero_le _, Nat.zero_le _⟩ ?_
            refine lv_if_eq (tgt := 47) hx hb d_MD_passes_40 (by decide) (fun c8 => ?_) (fun c8 => ?_)
            · rw [if_pos c8] at h
              refine lv_iconst (v := 0) hx hb d_MD_passes_47 (by decide) ?_
              exact W.zret hx hb hr rfl (fun t ht _ => qr_i h ht hW) hW.2.2.2 d_MD_passes_48
            · rw [if_neg c8] at h
              refine lv_iconst (v := 1) hx hb d_MD_passes_43 (by decide) ?_
              refine lv_goto (tgt := 48) hx hb d_MD_passes_44 (by decide) ?_
              exact W.zret hx hb hr rfl (fun t ht _ => qr_i h ht hW) hW.2.2.2 d_MD_passes_48
        exact k26 a1 a2 1 σ h _ _ hW _ (lv_sub hl [0, 1, 2] rfl)
abbrev wl_MD_way : List Cond := .code ⟨"PlaceMovesModel", "way", "(II)I"⟩ prog_9_method_37_code 9 (some FieldType.int) :: WG
set_option maxHeartbeats 4000000 in
set_option maxRecDepth 100000 in
theorem c_MD_way (l : Launch) (G : va_G) (ad : Nat → Nat) (cI cZ : ClassId) (hD : DR ad) (σ : Sg) (a1 : Int32) (a2 : Int32) (out : Int32 × Sg) (h : f_MD_way σ a1 a2 = some out) : Met l ⟨"PlaceMovesModel", "way", "(II)I"⟩ wl_MD_way ({ frames := 2, cells := 0, slots := 0, locals := 63 } : Room) (PcR G ad cI cZ σ [.ref (ad 0), .int a1, .int a2]) (QRi G ad cI cZ out) 0 0 (AR ad) := by
  refine Met.ofW (cc := prog_9_method_37_code) (maxL := 9) (ret := (some FieldType.int)) (by decide) rfl ?_
  intro p e s m args below meth c s₁ B hml hv
  obtain ⟨rfl, hP, hK⟩ := hv
  have hx := B.exec
  have hb := B.bytes
  have hr := B.returns
  have hts0 := atoms_spec (ws := wl_MD_way) B.pre
  have hts : ∀ w ∈ WG, w.before _ s = true := fun w hw => hts0 w (List.mem_cons_of_mem _ hw)
  have hown : s.vm.findClass "PlaceMovesModel" = some m.cls := findClass_of_methodNamed B.named
  have hlocks := B.notSynchronized
  have C : CX "PlaceMovesModel" prog_9_method_37_code p s m _ c G cI cZ := ⟨hx, hb, hown, hts, hK⟩
  have hl := lv_entry ([.ref (ad 0), .int a1, .int a2]) (n := 9) (Nat.le_of_ble_eq_true rfl)
  rw [lg_entry_eq]
  generalize (lg_sl ([.ref (ad 0), .int a1, .int a2]) ++ List.replicate (9 - (lg_sl ([.ref (ad 0), .int a1, .int a2])).length) Slot.unset).toArray = ls at hl ⊢
  have hl : lv_has ls 9 [(0, .ref (ad 0)), (1, .int a1), (2, .int a2)] := hl
  unfold f_MD_way at h
  have hW : WR G ad cI cZ s σ s.heap [] := ⟨hP, va_S.rf⟩
  refine lv_aload_n hx hb d_MD_way_0 rfl (lv_at hl 0 rfl) ?_
  refine lv_aload_n hx hb d_MD_way_1 rfl (lv_at hl 0 rfl) ?_
  refine lv_iload_n hx hb d_MD_way_2 rfl (lv_at hl 1 rfl) ?_
  obtain ⟨r1, g_r1, h⟩ := ob_some h
  refine cl_MD_110 (rest := [.ref (ad 0)]) C (hml.trans hl.1.symm) hW.1 g_r1 ⟨Nat.le_of_ble_eq_true rfl, Nat.le_of_ble_eq_true rfl⟩ (Nat.le_of_ble_eq_true rfl) d_MD_way_3 ⟨Nat.zero_le _, Nat.zero_le _⟩ ?_
  refine lv_if_eq (tgt := 21) hx hb d_MD_way_6 (by decide) (fun c2 => ?_) (fun c2 => ?_)
  · rw [if_pos c2] at h
    have k21 : ∀ (x1 : Int32) (x2 : Int32) (σ : Sg) (h : C_MD_way_21 x1 x2 σ = some out) (H : Heap) (locs : List Loc) (hW : WR G ad cI cZ s σ H locs) (ls : Array Slot) (hl : lv_has ls 9 [(0, .ref (ad 0)), (1, .int x1), (2, .int x2)]), W p l e (headSpec wl_MD_way ({ frames := 2, cells := 0, slots := 0, locals := 63 } : Room)).room s m (([.ref (ad 0), .int a1, .int a2] : List Value).toArray) below meth c H locs 0 0 (MQ below (QRi G ad cI cZ out) (([.ref (ad 0), .int a1, .int a2] : List Value).toArray) s 0 0 (AR ad)) (F0 m 21 ls [.ref (ad 0)]) := by
      intro x1 x2 σ h H locs hW ls hl
      unfold C_MD_way_21 at h
      refine lv_iconst (v := 0) hx hb d_MD_way_21 (by decide) ?_
      refine lv_iconst (v := 1) hx hb d_MD_way_22 (by decide) ?_
      refine lv_iconst (v := 1) hx hb d_MD_way_23 (by decide) ?_
      obtain ⟨r73, g_r73, h⟩ := ob_some h
      refine cl_MD_102 (rest := []) C hD (hml.trans hl.1.symm) hW g_r73 ⟨Nat.le_of_ble_eq_true rfl, Nat.le_of_ble_eq_true rfl⟩ (Nat.le_of_ble_eq_true rfl) d_MD_way_24 ⟨Nat.zero_le _, Nat.zero_le _⟩ (fun H locs hW => ?_)
      refine lv_if_ne (tgt := 32) hx hb d_MD_way_27 (by decide) (fun c74 => ?_) (fun c74 => ?_)
      · rw [if_neg c74] at h
        refine lv_aload_n hx hb d_MD_way_32 rfl (lv_at hl 0 rfl) ?_
        refine lv_iload_n hx hb d_MD_way_33 rfl (lv_at hl 1 rfl) ?_
        refine lv_aload_n hx hb d_MD_way_34 rfl (lv_at hl 0 rfl) ?_
        refine gf_MD_145 C hW.1 d_MD_way_35 ?_
        obtain ⟨r75, g_r75, h⟩ := ob_some h
        refine cl_MD_130 (rest := []) C (hml.trans hl.1.symm) hW.1 g_r75 ⟨Nat.le_of_ble_eq_true rfl, Nat.le_of_ble_eq_true rfl⟩ (Nat.le_of_ble_eq_true rfl) d_MD_way_38 ⟨Nat.zero_le _, Nat.zero_le _⟩ ?_
        refine lv_istore_n (lv' := [(3, .int r75), (0, .ref (ad 0)), (1, .int x1), (2, .int x2)]) hx hb d_MD_way_41 rfl hl (by decide) rfl (fun ls hl => ?_)
        refine lv_iconst (v := 0) hx hb d_MD_way_42 (by decide) ?_
        refine lv_istore (lv' := [(4, .int 0), (3, .int r75), (0, .ref (ad 0)), (1, .int x1), (2, .int x2)]) hx hb d_MD_way_43 hl (by decide) rfl (fun ls hl => ?_)
        have k45 : ∀ (n45 : Nat) (x1 : Int32) (x2 : Int32) (x3 : Int32) (x4 : Int32) (σ : Sg) (h : L_MD_way_45 n45 x1 x2 x3 x4 σ = some out) (H : Heap) (locs : List Loc) (hW : WR G ad cI cZ s σ H locs) (ls : Array Slot) (hl : lv_has ls 9 [(0, .ref (ad 0)), (1, .int x1), (2, .int x2), (3, .int x3), (4, .int x4)]), W p l e (headSpec wl_MD_way ({ frames := 2, cells := 0, slots := 0, locals := 63 } : Room)).room s m (([.ref (ad 0), .int a1, .int a2] : List Value).toArray) below meth c H locs 0 0 (MQ below (QRi G ad cI cZ out) (([.ref (ad 0), .int a1, .int a2] : List Value).toArray) s 0 0 (AR ad)) (F0 m 45 ls []) := by
          intro n45
          induction n45 with
          | zero =>
            intro x1 x2 x3 x4 σ h
            exact absurd h (by intro z; cases z)
          | succ n45 ih45 =>
            intro x1 x2 x3 x4 σ h H locs hW ls hl
            replace h : B_MD_way_45 (L_MD_way_45 n45) x1 x2 x3 x4 σ = some out := h
            unfold B_MD_way_45 at h
            refine lv_iload hx hb d_MD_way_45 (lv_at hl 4 rfl) ?_
            refine lv_bipush (v := 24) hx hb d_MD_way_47 (by decide) ?_
            refine lv_icmp_ge (tgt := 77) hx hb d_MD_way_49 (by decide) (fun c76 => ?_) (fun c76 => ?_)
            · rw [if_pos c76] at h
              refine lv_iconst (v := 0) hx hb d_MD_way_77 (by decide) ?_
              refine lv_istore (lv' := [(4, .int 0), (0, .ref (ad 0)), (1, .int x1), (2, .int x2), (3, .int x3)]) hx hb d_MD_way_78 hl (by decide) rfl (fun ls hl => ?_)
              have k80 : ∀ (n80 : Nat) (x1 : Int32) (x2 : Int32) (x3 : Int32) (x4 : Int32) (σ : Sg) (h : L_MD_way_80 n80 x1 x2 x3 x4 σ = some out) (H : Heap) (locs : List Loc) (hW : WR G ad cI cZ s σ H locs) (ls : Array Slot) (hl : lv_has ls 9 [(0, .ref (ad 0)), (1, .int x1), (2, .int x2), (3, .int x3), (4, .int x4)]), W p l e (headSpec wl_MD_way ({ frames := 2, cells := 0, slots := 0, locals := 63 } : Room)).room s m (([.ref (ad 0), .int a1, .int a2] : List Value).toArray) below meth c H locs 0 0 (MQ below (QRi G ad cI cZ out) (([.ref (ad 0), .int a1, .int a2] : List Value).toArray) s 0 0 (AR ad)) (F0 m 80 ls []) := by
                intro n80
                induction n80 with
                | zero =>
                  intro x1 x2 x3 x4 σ h
                  exact absurd h (by intro z; cases z)
                | succ n80 ih80 =>
                  intro x1 x2 x3 x4 σ h H locs hW ls hl
                  replace h : B_MD_way_80 (L_MD_way_80 n80) x1 x2 x3 x4 σ = some out := h
                  unfold B_MD_way_80 at h
                  refine lv_iload hx hb d_MD_way_80 (lv_at hl 4 rfl) ?_
                  refine lv_bipush (v := 24) hx hb d_MD_way_82 (by decide) ?_
                  refine lv_icmp_ge (tgt := 238) hx hb d_MD_way_84 (by decide) (fun c80 => ?_) (fun c80 => ?_)
                  · rw [if_pos c80] at h
                    refine lv_iload_n hx hb d_MD_way_238 rfl (lv_at hl 3 rfl) ?_
                    refine lv_iconst (v := (-1)) hx hb d_MD_way_239 (by decide) ?_
                    refine lv_icmp_eq (tgt := 254) hx hb d_MD_way_240 (by decide) (fun c105 => ?_) (fun c105 => ?_)
                    · rw [if_pos c105] at h
                      refine lv_iconst (v := (-1)) hx hb d_MD_way_254 (by decide) ?_
                      refine lv_goto (tgt := 264) hx hb d_MD_way_255 (by decide) ?_
                      exact W.iret hx hb hr (fun t ht _ => qr_i h ht hW) hW.2.2.2 d_MD_way_264
                    · rw [if_neg c105] at h
                      refine lv_aload_n hx hb d_MD_way_243 rfl (lv_at hl 0 rfl) ?_
                      refine gf_MD_56 C hW.1 d_MD_way_244 ?_
                      refine lv_iload_n hx hb d_MD_way_247 rfl (lv_at hl 2 rfl) ?_
                      obtain ⟨hin, h⟩ := gd_some h
                      refine alR_16 C hW.1 hin d_MD_way_248 ?_
                      refine lv_bipush (v := 24) hx hb d_MD_way_249 (by decide) ?_
                      refine lv_icmp_le (tgt := 258) hx hb d_MD_way_251 (by decide) (fun c106 => ?_) (fun c106 => ?_)
                      · rw [if_pos c106] at h
                        refine lv_aload_n hx hb d_MD_way_258 rfl (lv_at hl 0 rfl) ?_
                        refine gf_MD_56 C hW.1 d_MD_way_259 ?_
                        refine lv_iload_n hx hb d_MD_way_262 rfl (lv_at hl 2 rfl) ?_
                        obtain ⟨hin, h⟩ := gd_some h
                        refine alR_16 C hW.1 hin d_MD_way_263 ?_
                        exact W.iret hx hb hr (fun t ht _ => qr_i h ht hW) hW.2.2.2 d_MD_way_264
                      · rw [if_neg c106] at h
                        refine lv_iconst (v := (-1)) hx hb d_MD_way_254 (by decide) ?_
                        refine lv_goto (tgt := 264) hx hb d_MD_way_255 (by decide) ?_
                        exact W.iret hx hb hr (fun t ht _ => qr_i h ht hW) hW.2.2.2 d_MD_way_264
                  · rw [if_neg c80] at h
                    refine lv_iconst (v := 0) hx hb d_MD_way_87 (by decide) ?_
                    refine lv_istore (lv' := [(5, .int 0), (0, .ref (ad 0)), (1, .int x1), (2, .int x2), (3, .int x3), (4, .int x4)]) hx hb d_MD_way_88 hl (by decide) rfl (fun ls hl => ?_)
                    have k90 : ∀ (n90 : Nat) (x1 : Int32) (x2 : Int32) (x3 : Int32) (x4 : Int32) (x5 : Int32) (σ : Sg) (h : L_MD_way_90 (L_MD_way_80 n80) n90 x1 x2 x3 x4 x5 σ = some out) (H : Heap) (locs : List Loc) (hW : WR G ad cI cZ s σ H locs) (ls : Array Slot) (hl : lv_has ls 9 [(0, .ref (ad 0)), (1, .int x1), (2, .int x2), (3, .int x3), (4, .int x4), (5, .int x5)]), W p l e (headSpec wl_MD_way ({ frames := 2, cells := 0, slots := 0, locals := 63 } : Room)).room s m (([.ref (ad 0), .int a1, .int a2] : List Value).toArray) below meth c H locs 0 0 (MQ below (QRi G ad cI cZ out) (([.ref (ad 0), .int a1, .int a2] : List Value).toArray) s 0 0 (AR ad)) (F0 m 90 ls []) := by
                      intro n90
                      induction n90 with
                      | zero =>
                        intro x1 x2 x3 x4 x5 σ h
                        exact absurd h (by intro z; cases z)
                      | succ n90 ih90 =>
                        intro x1 x2 x3 x4 x5 σ h H locs hW ls hl
                        replace h : B_MD_way_90 (L_MD_way_80 n80) (L_MD_way_90 (L_MD_way_80 n80) n90) x1 x2 x3 x4 x5 σ = some out := h
                        unfold B_MD_way_90 at h
                        refine lv_iload hx hb d_MD_way_90 (lv_at hl 5 rfl) ?_
                        refine lv_aload_n hx hb d_MD_way_92 rfl (lv_at hl 0 rfl) ?_
                        refine gf_MD_170 C hW.1 d_MD_way_93 ?_
                        refine lv_icmp_ge (tgt := 232) hx hb d_MD_way_96 (by decide) (fun c81 => ?_) (fun c81 => ?_)
                        · rw [if_pos c81] at h
                          refine lv_iinc (v := x4 + 1) (lv' := [(4, .int (x4 + 1)), (0, .ref (ad 0)), (1, .int x1), (2, .int x2), (3, .int x3), (5, .int x5)]) hx hb d_MD_way_232 hl (k := 4) rfl rfl (by decide) rfl (fun ls hl => ?_)
                          refine lv_goto (tgt := 80) hx hb d_MD_way_235 (by decide) ?_
                          exact ih80 x1 x2 x3 (x4 + 1) σ h _ _ hW _ (lv_sub hl [1, 2, 3, 4, 0] rfl)
                        · rw [if_neg c81] at h
                          refine lv_aload_n hx hb d_MD_way_99 rfl (lv_at hl 0 rfl) ?_
                          refine lv_iload_n hx hb d_MD_way_100 rfl (lv_at hl 1 rfl) ?_
                          refine lv_iload hx hb d_MD_way_101 (lv_at hl 5 rfl) ?_
                          obtain ⟨r82, g_r82, h⟩ := ob_some h
                          refine cl_MD_179 (rest := []) C (hml.trans hl.1.symm) hW.1 g_r82 ⟨Nat.le_of_ble_eq_true rfl, Nat.le_of_ble_eq_true rfl⟩ (Nat.le_of_ble_eq_true rfl) d_MD_way_103 ⟨Nat.zero_le _, Nat.zero_le _⟩ ?_
                          refine lv_istore (lv' := [(6, .int r82), (0, .ref (ad 0)), (1, .int x1), (2, .int x2), (3, .int x3), (4, .int x4), (5, .int x5)]) hx hb d_MD_way_106 hl (by decide) rfl (fun ls hl => ?_)
                          refine lv_aload_n hx hb d_MD_way_108 rfl (lv_at hl 1 rfl) ?_
                          refine gf_MD_44 C hW.1 d_MD_way_109 ?_
                          refine lv_iload hx hb d_MD_way_112 (lv_at hl 6 rfl) ?_
                          obtain ⟨hin, h⟩ := gd_some h
                          refine alR_12 C hW.1 hin d_MD_way_114 ?_
                          obtain ⟨y83, e_y83, h⟩ := lt1_some h
                          refine W.eq (g2 := F0 m 115 ls (.int y83 :: [])) (by rw [e_y83]) ?_
                          refine lv_istore (lv' := [(7, .int y83), (6, .int r82), (0, .ref (ad 0)), (1, .int x1), (2, .int x2), (3, .int x3), (4, .int x4), (5, .int x5)]) hx hb d_MD_way_115 hl (by decide) rfl (fun ls hl => ?_)
                          refine lv_aload_n hx hb d_MD_way_117 rfl (lv_at hl 2 rfl) ?_
                          refine gf_MD_47 C hW.1 d_MD_way_118 ?_
                          refine lv_iload hx hb d_MD_way_121 (lv_at hl 7 rfl) ?_
                          obtain ⟨hin, h⟩ := gd_some h
                          refine alR_13 C hW.1 hin d_MD_way_123 ?_
                          obtain ⟨y84, e_y84, h⟩ := lt1_some h
                          refine W.eq (g2 := F0 m 124 ls (.int y84 :: [])) (by rw [e_y84]) ?_
                          refine lv_istore (lv' := [(8, .int y84), (7, .int y83), (6, .int r82), (0, .ref (ad 0)), (1, .int x1), (2, .int x2), (3, .int x3), (4, .int x4), (5, .int x5)]) hx hb d_MD_way_124 hl (by decide) rfl (fun ls hl => ?_)
                          refine lv_aload_n hx hb d_MD_way_126 rfl (lv_at hl 3 rfl) ?_
                          refine gf_MD_56 C hW.1 d_MD_way_127 ?_
                          refine lv_iload hx hb d_MD_way_130 (lv_at hl 0 rfl) ?_
                          refine lv_iload hx hb d_MD_way_132 (lv_at hl 2 rfl) ?_
                          refine lv_if_eq (tgt := 168) hx hb d_MD_way_134 (by decide) (fun c85 => ?_) (fun c85 => ?_)
                          · rw [if_pos c85] at h
                            refine lv_aload_n hx hb d_MD_way_168 rfl (lv_at hl 3 rfl) ?_
                            refine gf_MD_56 C hW.1 d_MD_way_169 ?_
                            refine lv_iload hx hb d_MD_way_172 (lv_at hl 0 rfl) ?_
                            obtain ⟨hin, h⟩ := gd_some h
                            refine alR_16 C hW.1 hin d_MD_way_174 ?_
                            have k175 : ∀ (x1 : Int32) (x2 : Int32) (x3 : Int32) (x4 : Int32) (x5 : Int32) (x6 : Int32) (x7 : Int32) (x8 : Int32) (s0 : Int32) (s1 : Int32) (σ : Sg) (h : C_MD_way_175 (L_MD_way_80 n80) (L_MD_way_90 (L_MD_way_80 n80) n90) x1 x2 x3 x4 x5 x6 x7 x8 s0 s1 σ = some out) (H : Heap) (locs : List Loc) (hW : WR G ad cI cZ s σ H locs) (ls : Array Slot) (hl : lv_has ls 9 [(0, .ref (ad 0)), (1, .int x1), (2, .int x2), (3, .int x3), (4, .int x4), (5, .int x5), (6, .int x6), (7, .int x7), (8, .int x8)]), W p l e (headSpec wl_MD_way ({ frames := 2, cells := 0, slots := 0, locals := 63 } : Room)).room s m (([.ref (ad 0), .int a1, .int a2] : List Value).toArray) below meth c H locs 0 0 (MQ below (QRi G ad cI cZ out) (([.ref (ad 0), .int a1, .int a2] : List Value).toArray) s 0 0 (AR ad)) (F0 m 175 ls [.int s0, .int s1, .ref (ad 16)]) := by
                              intro x1 x2 x3 x4 x5 x6 x7 x8 s0 s1 σ h H locs hW ls hl
                              unfold C_MD_way_175 at h
                              obtain ⟨hin, h⟩ := gd_some h
                              refine asR_16 C hD hW hin d_MD_way_175 (fun H locs hW => ?_)
                              obtain ⟨σ99, e_σ99, h⟩ := lt1_some h
                              rw [← e_σ99] at hW
                              refine lv_aload_n hx hb d_MD_way_176 rfl (lv_at hl 0 rfl) ?_
                              refine gf_MD_56 C hW.1 d_MD_way_177 ?_
                              refine lv_iload hx hb d_MD_way_180 (lv_at hl 7 rfl) ?_
                              refine lv_iload hx hb d_MD_way_182 (lv_at hl 6 rfl) ?_
                              refine lv_if_eq (tgt := 218) hx hb d_MD_way_184 (by decide) (fun c100 => ?_) (fun c100 => ?_)
                              · rw [if_pos c100] at h
                                refine lv_aload_n hx hb d_MD_way_218 rfl (lv_at hl 0 rfl) ?_
                                refine gf_MD_56 C hW.1 d_MD_way_219 ?_
                                refine lv_iload hx hb d_MD_way_222 (lv_at hl 7 rfl) ?_
                                obtain ⟨hin, h⟩ := gd_some h
                                refine alR_16 C hW.1 hin d_MD_way_224 ?_
                                obtain ⟨hin, h⟩ := gd_some h
                                refine asR_16 C hD hW hin d_MD_way_225 (fun H locs hW => ?_)
                                obtain ⟨σ104, e_σ104, h⟩ := lt1_some h
                                rw [← e_σ104] at hW
                                refine lv_iinc (v := x5 + 1) (lv' := [(5, .int (x5 + 1)), (0, .ref (ad 0)), (1, .int x1), (2, .int x2), (3, .int x3), (4, .int x4), (6, .int x6), (7, .int x7), (8, .int x8)]) hx hb d_MD_way_226 hl (k := 5) rfl rfl (by decide) rfl (fun ls hl => ?_)
                                refine lv_goto (tgt := 90) hx hb d_MD_way_229 (by decide) ?_
                                exact ih90 x1 x2 x3 x4 (x5 + 1) σ104 h _ _ hW _ (lv_sub hl [1, 2, 3, 4, 5, 0] rfl)
                              · rw [if_neg c100] at h
                                refine lv_aload_n hx hb d_MD_way_187 rfl (lv_at hl 0 rfl) ?_
                                refine gf_MD_56 C hW.1 d_MD_way_188 ?_
                                refine lv_iload hx hb d_MD_way_191 (lv_at hl 8 rfl) ?_
                                obtain ⟨hin, h⟩ := gd_some h
                                refine alR_16 C hW.1 hin d_MD_way_193 ?_
                                refine lv_iconst (v := 1) hx hb d_MD_way_194 (by decide) ?_
                                refine lv_iadd hx hb d_MD_way_195 ?_
                                refine lv_aload_n hx hb d_MD_way_196 rfl (lv_at hl 0 rfl) ?_
                                refine gf_MD_56 C hW.1 d_MD_way_197 ?_
                                refine lv_iload hx hb d_MD_way_200 (lv_at hl 7 rfl) ?_
                                obtain ⟨hin, h⟩ := gd_some h
                                refine alR_16 C hW.1 hin d_MD_way_202 ?_
                                refine lv_icmp_ge (tgt := 218) hx hb d_MD_way_203 (by decide) (fun c101 => ?_) (fun c101 => ?_)
                                · rw [if_pos c101] at h
                                  refine lv_aload_n hx hb d_MD_way_218 rfl (lv_at hl 0 rfl) ?_
                                  refine gf_MD_56 C hW.1 d_MD_way_219 ?_
                                  refine lv_iload hx hb d_MD_way_222 (lv_at hl 7 rfl) ?_
                                  obtain ⟨hin, h⟩ := gd_some h
                                  refine alR_16 C hW.1 hin d_MD_way_224 ?_
                                  obtain ⟨hin, h⟩ := gd_some h
                                  refine asR_16 C hD hW hin d_MD_way_225 (fun H locs hW => ?_)
                                  obtain ⟨σ103, e_σ103, h⟩ := lt1_some h
                                  rw [← e_σ103] at hW
                                  refine lv_iinc (v := x5 + 1) (lv' := [(5, .int (x5 + 1)), (0, .ref (ad 0)), (1, .int x1), (2, .int x2), (3, .int x3), (4, .int x4), (6, .int x6), (7, .int x7), (8, .int x8)]) hx hb d_MD_way_226 hl (k := 5) rfl rfl (by decide) rfl (fun ls hl => ?_)
                                  refine lv_goto (tgt := 90) hx hb d_MD_way_229 (by decide) ?_
                                  exact ih90 x1 x2 x3 x4 (x5 + 1) σ103 h _ _ hW _ (lv_sub hl [1, 2, 3, 4, 5, 0] rfl)
                                · rw [if_neg c101] at h
                                  refine lv_aload_n hx hb d_MD_way_206 rfl (lv_at hl 0 rfl) ?_
                                  refine gf_MD_56 C hW.1 d_MD_way_207 ?_
                                  refine lv_iload hx hb d_MD_way_210 (lv_at hl 8 rfl) ?_
                                  obtain ⟨hin, h⟩ := gd_some h
                                  refine alR_16 C hW.1 hin d_MD_way_212 ?_
                                  refine lv_iconst (v := 1) hx hb d_MD_way_213 (by decide) ?_
                                  refine lv_iadd hx hb d_MD_way_214 ?_
                                  refine lv_goto (tgt := 225) hx hb d_MD_way_215 (by decide) ?_
                                  obtain ⟨hin, h⟩ := gd_some h
                                  refine asR_16 C hD hW hin d_MD_way_225 (fun H locs hW => ?_)
                                  obtain ⟨σ102, e_σ102, h⟩ := lt1_some h
                                  rw [← e_σ102] at hW
                                  refine lv_iinc (v := x5 + 1) (lv' := [(5, .int (x5 + 1)), (0, .ref (ad 0)), (1, .int x1), (2, .int x2), (3, .int x3), (4, .int x4), (6, .int x6), (7, .int x7), (8, .int x8)]) hx hb d_MD_way_226 hl (k := 5) rfl rfl (by decide) rfl (fun ls hl => ?_)
                                  refine lv_goto (tgt := 90) hx hb d_MD_way_229 (by decide) ?_
                                  exact ih90 x1 x2 x3 x4 (x5 + 1) σ102 h _ _ hW _ (lv_sub hl [1, 2, 3, 4, 5, 0] rfl)
                            exact k175 x1 x2 x3 x4 x5 r82 y83 y84 (σ 16 (Int32.toNatClampNeg y84)) y84 σ h _ _ hW _ (lv_sub hl [3, 4, 5, 6, 7, 8, 2, 1, 0] rfl)
                          · rw [if_neg c85] at h
                            refine lv_aload_n hx hb d_MD_way_137 rfl (lv_at hl 3 rfl) ?_
                            refine gf_MD_56 C hW.1 d_MD_way_138 ?_
                            refine lv_iload hx hb d_MD_way_141 (lv_at hl 1 rfl) ?_
                            obtain ⟨hin, h⟩ := gd_some h
                            refine alR_16 C hW.1 hin d_MD_way_143 ?_
                            refine lv_iconst (v := 1) hx hb d_MD_way_144 (by decide) ?_
                            refine lv_iadd hx hb d_MD_way_145 ?_
                            refine lv_aload_n hx hb d_MD_way_146 rfl (lv_at hl 3 rfl) ?_
                            refine gf_MD_56 C hW.1 d_MD_way_147 ?_
                            refine lv_iload hx hb d_MD_way_150 (lv_at hl 0 rfl) ?_
                            obtain ⟨hin, h⟩ := gd_some h
                            refine alR_16 C hW.1 hin d_MD_way_152 ?_
                            refine lv_icmp_ge (tgt := 168) hx hb d_MD_way_153 (by decide) (fun c86 => ?_) (fun c86 => ?_)
                            · rw [if_pos c86] at h
                              refine lv_aload_n hx hb d_MD_way_168 rfl (lv_at hl 3 rfl) ?_
                              refine gf_MD_56 C hW.1 d_MD_way_169 ?_
                              refine lv_iload hx hb d_MD_way_172 (lv_at hl 0 rfl) ?_
                              obtain ⟨hin, h⟩ := gd_some h
                              refine alR_16 C hW.1 hin d_MD_way_174 ?_
                              have k175 : ∀ (x1 : Int32) (x2 : Int32) (x3 : Int32) (x4 : Int32) (x5 : Int32) (x6 : Int32) (x7 : Int32) (x8 : Int32) (s0 : Int32) (s1 : Int32) (σ : Sg) (h : C_MD_way_175 (L_MD_way_80 n80) (L_MD_way_90 (L_MD_way_80 n80) n90) x1 x2 x3 x4 x5 x6 x7 x8 s0 s1 σ = some out) (H : Heap) (locs : List Loc) (hW : WR G ad cI cZ s σ H locs) (ls : Array Slot) (hl : lv_has ls 9 [(0, .ref (ad 0)), (1, .int x1), (2, .int x2), (3, .int x3), (4, .int x4), (5, .int x5), (6, .int x6), (7, .int x7), (8, .int x8)]), W p l e (headSpec wl_MD_way ({ frames := 2, cells := 0, slots := 0, locals := 63 } : Room)).room s m (([.ref (ad 0), .int a1, .int a2] : List Value).toArray) below meth c H locs 0 0 (MQ below (QRi G ad cI cZ out) (([.ref (ad 0), .int a1, .int a2] : List Value).toArray) s 0 0 (AR ad)) (F0 m 175 ls [.int s0, .int s1, .ref (ad 16)]) := by
                                intro x1 x2 x3 x4 x5 x6 x7 x8 s0 s1 σ h H locs hW ls hl
                                unfold C_MD_way_175 at h
                                obtain ⟨hin, h⟩ := gd_some h
                                refine asR_16 C hD hW hin d_MD_way_175 (fun H locs hW => ?_)
                                obtain ⟨σ93, e_σ93, h⟩ := lt1_some h
                                rw [← e_σ93] at hW
                                refine lv_aload_n hx hb d_MD_way_176 rfl (lv_at hl 0 rfl) ?_
                                refine gf_MD_56 C hW.1 d_MD_way_177 ?_
                                refine lv_iload hx hb d_MD_way_180 (lv_at hl 7 rfl) ?_
                                refine lv_iload hx hb d_MD_way_182 (lv_at hl 6 rfl) ?_
                                refine lv_if_eq (tgt := 218) hx hb d_MD_way_184 (by decide) (fun c94 => ?_) (fun c94 => ?_)
                                · rw [if_pos c94] at h
                                  refine lv_aload_n hx hb d_MD_way_218 rfl (lv_at hl 0 rfl) ?_
                                  refine gf_MD_56 C hW.1 d_MD_way_219 ?_
                                  refine lv_iload hx hb d_MD_way_222 (lv_at hl 7 rfl) ?_
                                  obtain ⟨hin, h⟩ := gd_some h
                                  refine alR_16 C hW.1 hin d_MD_way_224 ?_
                                  obtain ⟨hin, h⟩ := gd_some h
                                  refine asR_16 C hD hW hin d_MD_way_225 (fun H locs hW => ?_)
                                  obtain ⟨σ98, e_σ98, h⟩ := lt1_some h
                                  rw [← e_σ98] at hW
                                  refine lv_iinc (v := x5 + 1) (lv' := [(5, .int (x5 + 1)), (0, .ref (ad 0)), (1, .int x1), (2, .int x2), (3, .int x3), (4, .int x4), (6, .int x6), (7, .int x7), (8, .int x8)]) hx hb d_MD_way_226 hl (k := 5) rfl rfl (by decide) rfl (fun ls hl => ?_)
                                  refine lv_goto (tgt := 90) hx hb d_MD_way_229 (by decide) ?_
                                  exact ih90 x1 x2 x3 x4 (x5 + 1) σ98 h _ _ hW _ (lv_sub hl [1, 2, 3, 4, 5, 0] rfl)
                                · rw [if_neg c94] at h
                                  refine lv_aload_n hx hb d_MD_way_187 rfl (lv_at hl 0 rfl) ?_
                                  refine gf_MD_56 C hW.1 d_MD_way_188 ?_
                                  refine lv_iload hx hb d_MD_way_191 (lv_at hl 8 rfl) ?_
                                  obtain ⟨hin, h⟩ := gd_some h
                                  refine alR_16 C hW.1 hin d_MD_way_193 ?_
                                  refine lv_iconst (v := 1) hx hb d_MD_way_194 (by decide) ?_
                                  refine lv_iadd hx hb d_MD_way_195 ?_
                                  refine lv_aload_n hx hb d_MD_way_196 rfl (lv_at hl 0 rfl) ?_
                                  refine gf_MD_56 C hW.1 d_MD_way_197 ?_
                                  refine lv_iload hx hb d_MD_way_200 (lv_at hl 7 rfl) ?_
                                  obtain ⟨hin, h⟩ := gd_some h
                                  refine alR_16 C hW.1 hin d_MD_way_202 ?_
                                  refine lv_icmp_ge (tgt := 218) hx hb d_MD_way_203 (by decide) (fun c95 => ?_) (fun c95 => ?_)
                                  · rw [if_pos c95] at h
                                    refine lv_aload_n hx hb d_MD_way_218 rfl (lv_at hl 0 rfl) ?_
                                    refine gf_MD_56 C hW.1 d_MD_way_219 ?_
                                    refine lv_iload hx hb d_MD_way_222 (lv_at hl 7 rfl) ?_
                                    obtain ⟨hin, h⟩ := gd_some h
                                    refine alR_16 C hW.1 hin d_MD_way_224 ?_
                                    obtain ⟨hin, h⟩ := gd_some h
                                    refine asR_16 C hD hW hin d_MD_way_225 (fun H locs hW => ?_)
                                    obtain ⟨σ97, e_σ97, h⟩ := lt1_some h
                                    rw [← e_σ97] at hW
                                    refine lv_iinc (v := x5 + 1) (lv' := [(5, .int (x5 + 1)), (0, .ref (ad 0)), (1, .int x1), (2, .int x2), (3, .int x3), (4, .int x4), (6, .int x6), (7, .int x7), (8, .int x8)]) hx hb d_MD_way_226 hl (k := 5) rfl rfl (by decide) rfl (fun ls hl => ?_)
                                    refine lv_goto (tgt := 90) hx hb d_MD_way_229 (by decide) ?_
                                    exact ih90 x1 x2 x3 x4 (x5 + 1) σ97 h _ _ hW _ (lv_sub hl [1, 2, 3, 4, 5, 0] rfl)
                                  · rw [if_neg c95] at h
                                    refine lv_aload_n hx hb d_MD_way_206 rfl (lv_at hl 0 rfl) ?_
                                    refine gf_MD_56 C hW.1 d_MD_way_207 ?_
                                    refine lv_iload hx hb d_MD_way_210 (lv_at hl 8 rfl) ?_
                                    obtain ⟨hin, h⟩ := gd_some h
                                    refine alR_16 C hW.1 hin d_MD_way_212 ?_
                                    refine lv_iconst (v := 1) hx hb d_MD_way_213 (by decide) ?_
                                    refine lv_iadd hx hb d_MD_way_214 ?_
                                    refine lv_goto (tgt := 225) hx hb d_MD_way_215 (by decide) ?_
                                    obtain ⟨hin, h⟩ := gd_some h
                                    refine asR_16 C hD hW hin d_MD_way_225 (fun H locs hW => ?_)
                                    obtain ⟨σ96, e_σ96, h⟩ := lt1_some h
                                    rw [← e_σ96] at hW
                                    refine lv_iinc (v := x5 + 1) (lv' := [(5, .int (x5 + 1)), (0, .ref (ad 0)), (1, .int x1), (2, .int x2), (3, .int x3), (4, .int x4), (6, .int x6), (7, .int x7), (8, .int x8)]) hx hb d_MD_way_226 hl (k := 5) rfl rfl (by decide) rfl (fun ls hl => ?_)
                                    refine lv_goto (tgt := 90) hx hb d_MD_way_229 (by decide) ?_
                                    exact ih90 x1 x2 x3 x4 (x5 + 1) σ96 h _ _ hW _ (lv_sub hl [1, 2, 3, 4, 5, 0] rfl)
                              exact k175 x1 x2 x3 x4 x5 r82 y83 y84 (σ 16 (Int32.toNatClampNeg y84)) y84 σ h _ _ hW _ (lv_sub hl [3, 4, 5, 6, 7, 8, 2, 1, 0] rfl)
                            · rw [if_neg c86] at h
                              refine lv_aload_n hx hb d_MD_way_156 rfl (lv_at hl 3 rfl) ?_
                              refine gf_MD_56 C hW.1 d_MD_way_157 ?_
                              refine lv_iload hx hb d_MD_way_160 (lv_at hl 1 rfl) ?_
                              obtain ⟨hin, h⟩ := gd_some h
                              refine alR_16 C hW.1 hin d_MD_way_162 ?_
                              refine lv_iconst (v := 1) hx hb d_MD_way_163 (by decide) ?_
                              refine lv_iadd hx hb d_MD_way_164 ?_
                              refine lv_goto (tgt := 175) hx hb d_MD_way_165 (by decide) ?_
                              have k175 : ∀ (x1 : Int32) (x2 : Int32) (x3 : Int32) (x4 : Int32) (x5 : Int32) (x6 : Int32) (x7 : Int32) (x8 : Int32) (s0 : Int32) (s1 : Int32) (σ : Sg) (h : C_MD_way_175 (L_MD_way_80 n80) (L_MD_way_90 (L_MD_way_80 n80) n90) x1 x2 x3 x4 x5 x6 x7 x8 s0 s1 σ = some out) (H : Heap) (locs : List Loc) (hW : WR G ad cI cZ s σ H locs) (ls : Array Slot) (hl : lv_has ls 9 [(0, .ref (ad 0)), (1, .int x1), (2, .int x2), (3, .int x3), (4, .int x4), (5, .int x5), (6, .int x6), (7, .int x7), (8, .int x8)]), W p l e (headSpec wl_MD_way ({ frames := 2, cells := 0, slots := 0, locals := 63 } : Room)).room s m (([.ref (ad 0), .int a1, .int a2] : List Value).toArray) below meth c H locs 0 0 (MQ below (QRi G ad cI cZ out) (([.ref (ad 0), .int a1, .int a2] : List Value).toArray) s 0 0 (AR ad)) (F0 m 175 ls [.int s0, .int s1, .ref (ad 16)]) := by
                                intro x1 x2 x3 x4 x5 x6 x7 x8 s0 s1 σ h H locs hW ls hl
                                unfold C_MD_way_175 at h
                                obtain ⟨hin, h⟩ := gd_some h
                                refine asR_16 C hD hW hin d_MD_way_175 (fun H locs hW => ?_)
                                obtain ⟨σ87, e_σ87, h⟩ := lt1_some h
                                rw [← e_σ87] at hW
                                refine lv_aload_n hx hb d_MD_way_176 rfl (lv_at hl 0 rfl) ?_
                                refine gf_MD_56 C hW.1 d_MD_way_177 ?_
                                refine lv_iload hx hb d_MD_way_180 (lv_at hl 7 rfl) ?_
                                refine lv_iload hx hb d_MD_way_182 (lv_at hl 6 rfl) ?_
                                refine lv_if_eq (tgt := 218) hx hb d_MD_way_184 (by decide) (fun c88 => ?_) (fun c88 => ?_)
                                · rw [if_pos c88] at h
                                  refine lv_aload_n hx hb d_MD_way_218 rfl (lv_at hl 0 rfl) ?_
                                  refine gf_MD_56 C hW.1 d_MD_way_219 ?_
                                  refine lv_iload hx hb d_MD_way_222 (lv_at hl 7 rfl) ?_
                                  obtain ⟨hin, h⟩ := gd_some h
                                  refine alR_16 C hW.1 hin d_MD_way_224 ?_
                                  obtain ⟨hin, h⟩ := gd_some h
                                  refine asR_16 C hD hW hin d_MD_way_225 (fun H locs hW => ?_)
                                  obtain ⟨σ92, e_σ92, h⟩ := lt1_some h
                                  rw [← e_σ92] at hW
                                  refine lv_iinc (v := x5 + 1) (lv' := [(5, .int (x5 + 1)), (0, .ref (ad 0)), (1, .int x1), (2, .int x2), (3, .int x3), (4, .int x4), (6, .int x6), (7, .int x7), (8, .int x8)]) hx hb d_MD_way_226 hl (k := 5) rfl rfl (by decide) rfl (fun ls hl => ?_)
                                  refine lv_goto (tgt := 90) hx hb d_MD_way_229 (by decide) ?_
                                  exact ih90 x1 x2 x3 x4 (x5 + 1) σ92 h _ _ hW _ (lv_sub hl [1, 2, 3, 4, 5, 0] rfl)
                                · rw [if_neg c88] at h
                                  refine lv_aload_n hx hb d_MD_way_187 rfl (lv_at hl 0 rfl) ?_
                                  refine gf_MD_56 C hW.1 d_MD_way_188 ?_
                                  refine lv_iload hx hb d_MD_way_191 (lv_at hl 8 rfl) ?_
                                  obtain ⟨hin, h⟩ := gd_some h
                                  refine alR_16 C hW.1 hin d_MD_way_193 ?_
                                  refine lv_iconst (v := 1) hx hb d_MD_way_194 (by decide) ?_
                                  refine lv_iadd hx hb d_MD_way_195 ?_
                                  refine lv_aload_n hx hb d_MD_way_196 rfl (lv_at hl 0 rfl) ?_
                                  refine gf_MD_56 C hW.1 d_MD_way_197 ?_
                                  refine lv_iload hx hb d_MD_way_200 (lv_at hl 7 rfl) ?_
                                  obtain ⟨hin, h⟩ := gd_some h
                                  refine alR_16 C hW.1 hin d_MD_way_202 ?_
                                  refine lv_icmp_ge (tgt := 218) hx hb d_MD_way_203 (by decide) (fun c89 => ?_) (fun c89 => ?_)
                                  · rw [if_pos c89] at h
                                    refine lv_aload_n hx hb d_MD_way_218 rfl (lv_at hl 0 rfl) ?_
                                    refine gf_MD_56 C hW.1 d_MD_way_219 ?_
                                    refine lv_iload hx hb d_MD_way_222 (lv_at hl 7 rfl) ?_
                                    obtain ⟨hin, h⟩ := gd_some h
                                    refine alR_16 C hW.1 hin d_MD_way_224 ?_
                                    obtain ⟨hin, h⟩ := gd_some h
                                    refine asR_16 C hD hW hin d_MD_way_225 (fun H locs hW => ?_)
                                    obtain ⟨σ91, e_σ91, h⟩ := lt1_some h
                                    rw [← e_σ91] at hW
                                    refine lv_iinc (v := x5 + 1) (lv' := [(5, .int (x5 + 1)), (0, .ref (ad 0)), (1, .int x1), (2, .int x2), (3, .int x3), (4, .int x4), (6, .int x6), (7, .int x7), (8, .int x8)]) hx hb d_MD_way_226 hl (k := 5) rfl rfl (by decide) rfl (fun ls hl => ?_)
                                    refine lv_goto (tgt := 90) hx hb d_MD_way_229 (by decide) ?_
                                    exact ih90 x1 x2 x3 x4 (x5 + 1) σ91 h _ _ hW _ (lv_sub hl [1, 2, 3, 4, 5, 0] rfl)
                                  · rw [if_neg c89] at h
                                    refine lv_aload_n hx hb d_MD_way_206 rfl (lv_at hl 0 rfl) ?_
                                    refine gf_MD_56 C hW.1 d_MD_way_207 ?_
                                    refine lv_iload hx hb d_MD_way_210 (lv_at hl 8 rfl) ?_
                                    obtain ⟨hin, h⟩ := gd_some h
                                    refine alR_16 C hW.1 hin d_MD_way_212 ?_
                                    refine lv_iconst (v := 1) hx hb d_MD_way_213 (by decide) ?_
                                    refine lv_iadd hx hb d_MD_way_214 ?_
                                    refine lv_goto (tgt := 225) hx hb d_MD_way_215 (by decide) ?_
                                    obtain ⟨hin, h⟩ := gd_some h
                                    refine asR_16 C hD hW hin d_MD_way_225 (fun H locs hW => ?_)
                                    obtain ⟨σ90, e_σ90, h⟩ := lt1_some h
                                    rw [← e_σ90] at hW
                                    refine lv_iinc (v := x5 + 1) (lv' := [(5, .int (x5 + 1)), (0, .ref (ad 0)), (1, .int x1), (2, .int x2), (3, .int x3), (4, .int x4), (6, .int x6), (7, .int x7), (8, .int x8)]) hx hb d_MD_way_226 hl (k := 5) rfl rfl (by decide) rfl (fun ls hl => ?_)
                                    refine lv_goto (tgt := 90) hx hb d_MD_way_229 (by decide) ?_
                                    exact ih90 x1 x2 x3 x4 (x5 + 1) σ90 h _ _ hW _ (lv_sub hl [1, 2, 3, 4, 5, 0] rfl)
                              exact k175 x1 x2 x3 x4 x5 r82 y83 y84 ((σ 16 (Int32.toNatClampNeg y83)) + 1) y84 σ h _ _ hW _ (lv_sub hl [3, 4, 5, 6, 7, 8, 2, 1, 0] rfl)
                    exact k90 _ x1 x2 x3 x4 0 σ h _ _ hW _ (lv_sub hl [1, 2, 3, 4, 5, 0] rfl)
              exact k80 _ x1 x2 x3 0 σ h _ _ hW _ (lv_sub hl [1, 2, 3, 4, 0] rfl)
            · rw [if_neg c76] at h
              refine lv_aload_n hx hb d_MD_way_52 rfl (lv_at hl 0 rfl) ?_
              refine gf_MD_56 C hW.1 d_MD_way_53 ?_
              refine lv_iload hx hb d_MD_way_56 (lv_at hl 4 rfl) ?_
              refine lv_iload hx hb d_MD_way_58 (lv_at hl 4 rfl) ?_
              refine lv_iload_n hx hb d_MD_way_60 rfl (lv_at hl 3 rfl) ?_
              refine lv_icmp_ne (tgt := 68) hx hb d_MD_way_61 (by decide) (fun c77 => ?_) (fun c77 => ?_)
              · rw [if_neg c77] at h
                refine lv_bipush (v := 99) hx hb d_MD_way_68 (by decide) ?_
                obtain ⟨hin, h⟩ := gd_some h
                refine asR_16 C hD hW hin d_MD_way_70 (fun H locs hW => ?_)
                obtain ⟨σ79, e_σ79, h⟩ := lt1_some h
                rw [← e_σ79] at hW
                refine lv_iinc (v := x4 + 1) (lv' := [(4, .int (x4 + 1)), (0, .ref (ad 0)), (1, .int x1), (2, .int x2), (3, .int x3)]) hx hb d_MD_way_71 hl (k := 4) rfl rfl (by decide) rfl (fun ls hl => ?_)
                refine lv_goto (tgt := 45) hx hb d_MD_way_74 (by decide) ?_
                exact ih45 x1 x2 x3 (x4 + 1) σ79 h _ _ hW _ (lv_sub hl [1, 2, 3, 4, 0] rfl)
              · rw [if_pos c77] at h
                refine lv_iconst (v := 0) hx hb d_MD_way_64 (by decide) ?_
                refine lv_goto (tgt := 70) hx hb d_MD_way_65 (by decide) ?_
                obtain ⟨hin, h⟩ := gd_some h
                refine asR_16 C hD hW hin d_MD_way_70 (fun H locs hW => ?_)
                obtain ⟨σ78, e_σ78, h⟩ := lt1_some h
                rw [← e_σ78] at hW
                refine lv_iinc (v := x4 + 1) (lv' := [(4, .int (x4 + 1)), (0, .ref (ad 0)), (1, .int x1), (2, .int x2), (3, .int x3)]) hx hb d_MD_way_71 hl (k := 4) rfl rfl (by decide) rfl (fun ls hl => ?_)
                refine lv_goto (tgt := 45) hx hb d_MD_way_74 (by decide) ?_
                exact ih45 x1 x2 x3 (x4 + 1) σ78 h _ _ hW _ (lv_sub hl [1, 2, 3, 4, 0] rfl)
        exact k45 _ x1 x2 r75 0 r73.2 h _ _ hW _ (lv_sub hl [2, 3, 4, 1, 0] rfl)
      · rw [if_pos c74] at h
        refine lv_iconst (v := 0) hx hb d_MD_way_30 (by decide) ?_
        exact W.iret hx hb hr (fun t ht _ => qr_i h ht hW) hW.2.2.2 d_MD_way_31
    exact k21 a1 a2 σ h _ _ hW _ (lv_sub hl [0, 1, 2] rfl)
  · rw [if_neg c2] at h
    refine lv_aload_n hx hb d_MD_way_9 rfl (lv_at hl 0 rfl) ?_
    refine lv_iload_n hx hb d_MD_way_10 rfl (lv_at hl 2 rfl) ?_
    obtain ⟨r3, g_r3, h⟩ := ob_some h
    refine cl_MD_93 (rest := [.ref (ad 0)]) C (hml.trans hl.1.symm) hW.1 g_r3 ⟨Nat.le_of_ble_eq_true rfl, Nat.le_of_ble_eq_true rfl⟩ (Nat.le_of_ble_eq_true rfl) d_MD_way_11 ⟨Nat.zero_le _, Nat.zero_le _⟩ ?_
    refine lv_if_eq (tgt := 21) hx hb d_MD_way_14 (by decide) (fun c4 => ?_) (fun c4 => ?_)
    · rw [if_pos c4] at h
      have k21 : ∀ (x1 : Int32) (x2 : Int32) (σ : Sg) (h : C_MD_way_21 x1 x2 σ = some out) (H : Heap) (locs : List Loc) (hW : WR G ad cI cZ s σ H locs) (ls : Array Slot) (hl : lv_has ls 9 [(0, .ref (ad 0)), (1, .int x1), (2, .int x2)]), W p l e (headSpec wl_MD_way ({ frames := 2, cells := 0, slots := 0, locals := 63 } : Room)).room s m (([.ref (ad 0), .int a1, .int a2] : List Value).toArray) below meth c H locs 0 0 (MQ below (QRi G ad cI cZ out) (([.ref (ad 0), .int a1, .int a2] : List Value).toArray) s 0 0 (AR ad)) (F0 m 21 ls [.ref (ad 0)]) := by
        intro x1 x2 σ h H locs hW ls hl
        unfold C_MD_way_21 at h
        refine lv_iconst (v := 0) hx hb d_MD_way_21 (by decide) ?_
        refine lv_iconst (v := 1) hx hb d_MD_way_22 (by decide) ?_
        refine lv_iconst (v := 1) hx hb d_MD_way_23 (by decide) ?_
        obtain ⟨r39, g_r39, h⟩ := ob_some h
        refine cl_MD_102 (rest := []) C hD (hml.trans hl.1.symm) hW g_r39 ⟨Nat.le_of_ble_eq_true rfl, Nat.le_of_ble_eq_true rfl⟩ (Nat.le_of_ble_eq_true rfl) d_MD_way_24 ⟨Nat.zero_le _, Nat.zero_le _⟩ (fun H locs hW => ?_)
        refine lv_if_ne (tgt := 32) hx hb d_MD_way_27 (by decide) (fun c40 => ?_) (fun c40 => ?_)
        · rw [if_neg c40] at h
          refine lv_aload_n hx hb d_MD_way_32 rfl (lv_at hl 0 rfl) ?_
          refine lv_iload_n hx hb d_MD_way_33 rfl (lv_at hl 1 rfl) ?_
          refine lv_aload_n hx hb d_MD_way_34 rfl (lv_at hl 0 rfl) ?_
          refine gf_MD_145 C hW.1 d_MD_way_35 ?_
          obtain ⟨r41, g_r41, h⟩ := ob_some h
          refine cl_MD_130 (rest := []) C (hml.trans hl.1.symm) hW.1 g_r41 ⟨Nat.le_of_ble_eq_true rfl, Nat.le_of_ble_eq_true rfl⟩ (Nat.le_of_ble_eq_true rfl) d_MD_way_38 ⟨Nat.zero_le _, Nat.zero_le _⟩ ?_
          refine lv_istore_n (lv' := [(3, .int r41), (0, .ref (ad 0)), (1, .int x1), (2, .int x2)]) hx hb d_MD_way_41 rfl hl (by decide) rfl (fun ls hl => ?_)
          refine lv_iconst (v := 0) hx hb d_MD_way_42 (by decide) ?_
          refine lv_istore (lv' := [(4, .int 0), (3, .int r41), (0, .ref (ad 0)), (1, .int x1), (2, .int x2)]) hx hb d_MD_way_43 hl (by decide) rfl (fun ls hl => ?_)
          have k45 : ∀ (n45 : Nat) (x1 : Int32) (x2 : Int32) (x3 : Int32) (x4 : Int32) (σ : Sg) (h : L_MD_way_45 n45 x1 x2 x3 x4 σ = some out) (H : Heap) (locs : List Loc) (hW : WR G ad cI cZ s σ H locs) (ls : Array Slot) (hl : lv_has ls 9 [(0, .ref (ad 0)), (1, .int x1), (2, .int x2), (3, .int x3), (4, .int x4)]), W p l e (headSpec wl_MD_way ({ frames := 2, cells := 0, slots := 0, locals := 63 } : Room)).room s m (([.ref (ad 0), .int a1, .int a2] : List Value).toArray) below meth c H locs 0 0 (MQ below (QRi G ad cI cZ out) (([.ref (ad 0), .int a1, .int a2] : List Value).toArray) s 0 0 (AR ad)) (F0 m 45 ls []) := by
            intro n45
            induction n45 with
            | zero =>
              intro x1 x2 x3 x4 σ h
              exact absurd h (by intro z; cases z)
            | succ n45 ih45 =>
              intro x1 x2 x3 x4 σ h H locs hW ls hl
              replace h : B_MD_way_45 (L_MD_way_45 n45) x1 x2 x3 x4 σ = some out := h
              unfold B_MD_way_45 at h
              refine lv_iload hx hb d_MD_way_45 (lv_at hl 4 rfl) ?_
              refine lv_bipush (v := 24) hx hb d_MD_way_47 (by decide) ?_
              refine lv_icmp_ge (tgt := 77) hx hb d_MD_way_49 (by decide) (fun c42 => ?_) (fun c42 => ?_)
              · rw [if_pos c42] at h
                refine lv_iconst (v := 0) hx hb d_MD_way_77 (by decide) ?_
                refine lv_istore (lv' := [(4, .int 0), (0, .ref (ad 0)), (1, .int x1), (2, .int x2), (3, .int x3)]) hx hb d_MD_way_78 hl (by decide) rfl (fun ls hl => ?_)
                have k80 : ∀ (n80 : Nat) (x1 : Int32) (x2 : Int32) (x3 : Int32) (x4 : Int32) (σ : Sg) (h : L_MD_way_80 n80 x1 x2 x3 x4 σ = some out) (H : Heap) (locs : List Loc) (hW : WR G ad cI cZ s σ H locs) (ls : Array Slot) (hl : lv_has ls 9 [(0, .ref (ad 0)), (1, .int x1), (2, .int x2), (3, .int x3), (4, .int x4)]), W p l e (headSpec wl_MD_way ({ frames := 2, cells := 0, slots := 0, locals := 63 } : Room)).room s m (([.ref (ad 0), .int a1, .int a2] : List Value).toArray) below meth c H locs 0 0 (MQ below (QRi G ad cI cZ out) (([.ref (ad 0), .int a1, .int a2] : List Value).toArray) s 0 0 (AR ad)) (F0 m 80 ls []) := by
                  intro n80
                  induction n80 with
                  | zero =>
                    intro x1 x2 x3 x4 σ h
                    exact absurd h (by intro z; cases z)
                  | succ n80 ih80 =>
                    intro x1 x2 x3 x4 σ h H locs hW ls hl
                    replace h : B_MD_way_80 (L_MD_way_80 n80) x1 x2 x3 x4 σ = some out := h
                    unfold B_MD_way_80 at h
                    refine lv_iload hx hb d_MD_way_80 (lv_at hl 4 rfl) ?_
                    refine lv_bipush (v := 24) hx hb d_MD_way_82 (by decide) ?_
                    refine lv_icmp_ge (tgt := 238) hx hb d_MD_way_84 (by decide) (fun c46 => ?_) (fun c46 => ?_)
                    · rw [if_pos c46] at h
                      refine lv_iload_n hx hb d_MD_way_238 rfl (lv_at hl 3 rfl) ?_
                      refine lv_iconst (v := (-1)) hx hb d_MD_way_239 (by decide) ?_
                      refine lv_icmp_eq (tgt := 254) hx hb d_MD_way_240 (by decide) (fun c71 => ?_) (fun c71 => ?_)
                      · rw [if_pos c71] at h
                        refine lv_iconst (v := (-1)) hx hb d_MD_way_254 (by decide) ?_
                        refine lv_goto (tgt := 264) hx hb d_MD_way_255 (by decide) ?_
                        exact W.iret hx hb hr (fun t ht _ => qr_i h ht hW) hW.2.2.2 d_MD_way_264
                      · rw [if_neg c71] at h
                        refine lv_aload_n hx hb d_MD_way_243 rfl (lv_at hl 0 rfl) ?_
                        refine gf_MD_56 C hW.1 d_MD_way_244 ?_
                        refine lv_iload_n hx hb d_MD_way_247 rfl (lv_at hl 2 rfl) ?_
                        obtain ⟨hin, h⟩ := gd_some h
                        refine alR_16 C hW.1 hin d_MD_way_248 ?_
                        refine lv_bipush (v := 24) hx hb d_MD_way_249 (by decide) ?_
                        refine lv_icmp_le (tgt := 258) hx hb d_MD_way_251 (by decide) (fun c72 => ?_) (fun c72 => ?_)
                        · rw [if_pos c72] at h
                          refine lv_aload_n hx hb d_MD_way_258 rfl (lv_at hl 0 rfl) ?_
                          refine gf_MD_56 C hW.1 d_MD_way_259 ?_
                          refine lv_iload_n hx hb d_MD_way_262 rfl (lv_at hl 2 rfl) ?_
                          obtain ⟨hin, h⟩ := gd_some h
                          refine alR_16 C hW.1 hin d_MD_way_263 ?_
                          exact W.iret hx hb hr (fun t ht _ => qr_i h ht hW) hW.2.2.2 d_MD_way_264
                        · rw [if_neg c72] at h
                          refine lv_iconst (v := (-1)) hx hb d_MD_way_254 (by decide) ?_
                          refine lv_goto (tgt := 264) hx hb d_MD_way_255 (by decide) ?_
                          exact W.iret hx hb hr (fun t ht _ => qr_i h ht hW) hW.2.2.2 d_MD_way_264
                    · rw [if_neg c46] at h
                      refine lv_iconst (v := 0) hx hb d_MD_way_87 (by decide) ?_
                      refine lv_istore (lv' := [(5, .int 0), (0, .ref (ad 0)), (1, .int x1), (2, .int x2), (3, .int x3), (4, .int x4)]) hx hb d_MD_way_88 hl (by decide) rfl (fun ls hl => ?_)
                      have k90 : ∀ (n90 : Nat) (x1 : Int32) (x2 : Int32) (x3 : Int32) (x4 : Int32) (x5 : Int32) (σ : Sg) (h : L_MD_way_90 (L_MD_way_80 n80) n90 x1 x2 x3 x4 x5 σ = some out) (H : Heap) (locs : List Loc) (hW : WR G ad cI cZ s σ H locs) (ls : Array Slot) (hl : lv_has ls 9 [(0, .ref (ad 0)), (1, .int x1), (2, .int x2), (3, .int x3), (4, .int x4), (5, .int x5)]), W p l e (headSpec wl_MD_way ({ frames := 2, cells := 0, slots := 0, locals := 63 } : Room)).room s m (([.ref (ad 0), .int a1, .int a2] : List Value).toArray) below meth c H locs 0 0 (MQ below (QRi G ad cI cZ out) (([.ref (ad 0), .int a1, .int a2] : List Value).toArray) s 0 0 (AR ad)) (F0 m 90 ls []) := by
                        intro n90
                        induction n90 with
                        | zero =>
                          intro x1 x2 x3 x4 x5 σ h
                          exact absurd h (by intro z; cases z)
                        | succ n90 ih90 =>
                          intro x1 x2 x3 x4 x5 σ h H locs hW ls hl
                          replace h : B_MD_way_90 (L_MD_way_80 n80) (L_MD_way_90 (L_MD_way_80 n80) n90) x1 x2 x3 x4 x5 σ = some out := h
                          unfold B_MD_way_90 at h
                          refine lv_iload hx hb d_MD_way_90 (lv_at hl 5 rfl) ?_
                          refine lv_aload_n hx hb d_MD_way_92 rfl (lv_at hl 0 rfl) ?_
                          refine gf_MD_170 C hW.1 d_MD_way_93 ?_
                          refine lv_icmp_ge (tgt := 232) hx hb d_MD_way_96 (by decide) (fun c47 => ?_) (fun c47 => ?_)
                          · rw [if_pos c47] at h
                            refine lv_iinc (v := x4 + 1) (lv' := [(4, .int (x4 + 1)), (0, .ref (ad 0)), (1, .int x1), (2, .int x2), (3, .int x3), (5, .int x5)]) hx hb d_MD_way_232 hl (k := 4) rfl rfl (by decide) rfl (fun ls hl => ?_)
                            refine lv_goto (tgt := 80) hx hb d_MD_way_235 (by decide) ?_
                            exact ih80 x1 x2 x3 (x4 + 1) σ h _ _ hW _ (lv_sub hl [1, 2, 3, 4, 0] rfl)
                          · rw [if_neg c47] at h
                            refine lv_aload_n hx hb d_MD_way_99 rfl (lv_at hl 0 rfl) ?_
                            refine lv_iload_n hx hb d_MD_way_100 rfl (lv_at hl 1 rfl) ?_
                            refine lv_iload hx hb d_MD_way_101 (lv_at hl 5 rfl) ?_
                            obtain ⟨r48, g_r48, h⟩ := ob_some h
                            refine cl_MD_179 (rest := []) C (hml.trans hl.1.symm) hW.1 g_r48 ⟨Nat.le_of_ble_eq_true rfl, Nat.le_of_ble_eq_true rfl⟩ (Nat.le_of_ble_eq_true rfl) d_MD_way_103 ⟨Nat.zero_le _, Nat.zero_le _⟩ ?_
                            refine lv_istore (lv' := [(6, .int r48), (0, .ref (ad 0)), (1, .int x1), (2, .int x2), (3, .int x3), (4, .int x4), (5, .int x5)]) hx hb d_MD_way_106 hl (by decide) rfl (fun ls hl => ?_)
                            refine lv_aload_n hx hb d_MD_way_108 rfl (lv_at hl 1 rfl) ?_
                            refine gf_MD_44 C hW.1 d_MD_way_109 ?_
                            refine lv_iload hx hb d_MD_way_112 (lv_at hl 6 rfl) ?_
                            obtain ⟨hin, h⟩ := gd_some h
                            refine alR_12 C hW.1 hin d_MD_way_114 ?_
                            obtain ⟨y49, e_y49, h⟩ := lt1_some h
                            refine W.eq (g2 := F0 m 115 ls (.int y49 :: [])) (by rw [e_y49]) ?_
                            refine lv_istore (lv' := [(7, .int y49), (6, .int r48), (0, .ref (ad 0)), (1, .int x1), (2, .int x2), (3, .int x3), (4, .int x4), (5, .int x5)]) hx hb d_MD_way_115 hl (by decide) rfl (fun ls hl => ?_)
                            refine lv_aload_n hx hb d_MD_way_117 rfl (lv_at hl 2 rfl) ?_
                            refine gf_MD_47 C hW.1 d_MD_way_118 ?_
                            refine lv_iload hx hb d_MD_way_121 (lv_at hl 7 rfl) ?_
                            obtain ⟨hin, h⟩ := gd_some h
                            refine alR_13 C hW.1 hin d_MD_way_123 ?_
                            obtain ⟨y50, e_y50, h⟩ := lt1_some h
                            refine W.eq (g2 := F0 m 124 ls (.int y50 :: [])) (by rw [e_y50]) ?_
                            refine lv_istore (lv' := [(8, .int y50), (7, .int y49), (6, .int r48), (0, .ref (ad 0)), (1, .int x1), (2, .int x2), (3, .int x3), (4, .int x4), (5, .int x5)]) hx hb d_MD_way_124 hl (by decide) rfl (fun ls hl => ?_)
                            refine lv_aload_n hx hb d_MD_way_126 rfl (lv_at hl 3 rfl) ?_
                            refine gf_MD_56 C hW.1 d_MD_way_127 ?_
                            refine lv_iload hx hb d_MD_way_130 (lv_at hl 0 rfl) ?_
                            refine lv_iload hx hb d_MD_way_132 (lv_at hl 2 rfl) ?_
                            refine lv_if_eq (tgt := 168) hx hb d_MD_way_134 (by decide) (fun c51 => ?_) (fun c51 => ?_)
                            · rw [if_pos c51] at h
                              refine lv_aload_n hx hb d_MD_way_168 rfl (lv_at hl 3 rfl) ?_
                              refine gf_MD_56 C hW.1 d_MD_way_169 ?_
                              refine lv_iload hx hb d_MD_way_172 (lv_at hl 0 rfl) ?_
                              obtain ⟨hin, h⟩ := gd_some h
                              refine alR_16 C hW.1 hin d_MD_way_174 ?_
                              have k175 : ∀ (x1 : Int32) (x2 : Int32) (x3 : Int32) (x4 : Int32) (x5 : Int32) (x6 : Int32) (x7 : Int32) (x8 : Int32) (s0 : Int32) (s1 : Int32) (σ : Sg) (h : C_MD_way_175 (L_MD_way_80 n80) (L_MD_way_90 (L_MD_way_80 n80) n90) x1 x2 x3 x4 x5 x6 x7 x8 s0 s1 σ = some out) (H : Heap) (locs : List Loc) (hW : WR G ad cI cZ s σ H locs) (ls : Array Slot) (hl : lv_has ls 9 [(0, .ref (ad 0)), (1, .int x1), (2, .int x2), (3, .int x3), (4, .int x4), (5, .int x5), (6, .int x6), (7, .int x7), (8, .int x8)]), W p l e (headSpec wl_MD_way ({ frames := 2, cells := 0, slots := 0, locals := 63 } : Room)).room s m (([.ref (ad 0), .int a1, .int a2] : List Value).toArray) below meth c H locs 0 0 (MQ below (QRi G ad cI cZ out) (([.ref (ad 0), .int a1, .int a2] : List Value).toArray) s 0 0 (AR ad)) (F0 m 175 ls [.int s0, .int s1, .ref (ad 16)]) := by
                                intro x1 x2 x3 x4 x5 x6 x7 x8 s0 s1 σ h H locs hW ls hl
                                unfold C_MD_way_175 at h
                                obtain ⟨hin, h⟩ := gd_some h
                                refine asR_16 C hD hW hin d_MD_way_175 (fun H locs hW => ?_)
                                obtain ⟨σ65, e_σ65, h⟩ := lt1_some h
                                rw [← e_σ65] at hW
                                refine lv_aload_n hx hb d_MD_way_176 rfl (lv_at hl 0 rfl) ?_
                                refine gf_MD_56 C hW.1 d_MD_way_177 ?_
                                refine lv_iload hx hb d_MD_way_180 (lv_at hl 7 rfl) ?_
                                refine lv_iload hx hb d_MD_way_182 (lv_at hl 6 rfl) ?_
                                refine lv_if_eq (tgt := 218) hx hb d_MD_way_184 (by decide) (fun c66 => ?_) (fun c66 => ?_)
                                · rw [if_pos c66] at h
                                  refine lv_aload_n hx hb d_MD_way_218 rfl (lv_at hl 0 rfl) ?_
                                  refine gf_MD_56 C hW.1 d_MD_way_219 ?_
                                  refine lv_iload hx hb d_MD_way_222 (lv_at hl 7 rfl) ?_
                                  obtain ⟨hin, h⟩ := gd_some h
                                  refine alR_16 C hW.1 hin d_MD_way_224 ?_
                                  obtain ⟨hin, h⟩ := gd_some h
                                  refine asR_16 C hD hW hin d_MD_way_225 (fun H locs hW => ?_)
                                  obtain ⟨σ70, e_σ70, h⟩ := lt1_some h
                                  rw [← e_σ70] at hW
                                  refine lv_iinc (v := x5 + 1) (lv' := [(5, .int (x5 + 1)), (0, .ref (ad 0)), (1, .int x1), (2, .int x2), (3, .int x3), (4, .int x4), (6, .int x6), (7, .int x7), (8, .int x8)]) hx hb d_MD_way_226 hl (k := 5) rfl rfl (by decide) rfl (fun ls hl => ?_)
                                  refine lv_goto (tgt := 90) hx hb d_MD_way_229 (by decide) ?_
                                  exact ih90 x1 x2 x3 x4 (x5 + 1) σ70 h _ _ hW _ (lv_sub hl [1, 2, 3, 4, 5, 0] rfl)
                                · rw [if_neg c66] at h
                                  refine lv_aload_n hx hb d_MD_way_187 rfl (lv_at hl 0 rfl) ?_
                                  refine gf_MD_56 C hW.1 d_MD_way_188 ?_
                                  refine lv_iload hx hb d_MD_way_191 (lv_at hl 8 rfl) ?_
                                  obtain ⟨hin, h⟩ := gd_some h
                                  refine alR_16 C hW.1 hin d_MD_way_193 ?_
                                  refine lv_iconst (v := 1) hx hb d_MD_way_194 (by decide) ?_
                                  refine lv_iadd hx hb d_MD_way_195 ?_
                                  refine lv_aload_n hx hb d_MD_way_196 rfl (lv_at hl 0 rfl) ?_
                                  refine gf_MD_56 C hW.1 d_MD_way_197 ?_
                                  refine lv_iload hx hb d_MD_way_200 (lv_at hl 7 rfl) ?_
                                  obtain ⟨hin, h⟩ := gd_some h
                                  refine alR_16 C hW.1 hin d_MD_way_202 ?_
                                  refine lv_icmp_ge (tgt := 218) hx hb d_MD_way_203 (by decide) (fun c67 => ?_) (fun c67 => ?_)
                                  · rw [if_pos c67] at h
                                    refine lv_aload_n hx hb d_MD_way_218 rfl (lv_at hl 0 rfl) ?_
                                    refine gf_MD_56 C hW.1 d_MD_way_219 ?_
                                    refine lv_iload hx hb d_MD_way_222 (lv_at hl 7 rfl) ?_
                                    obtain ⟨hin, h⟩ := gd_some h
                                    refine alR_16 C hW.1 hin d_MD_way_224 ?_
                                    obtain ⟨hin, h⟩ := gd_some h
                                    refine asR_16 C hD hW hin d_MD_way_225 (fun H locs hW => ?_)
                                    obtain ⟨σ69, e_σ69, h⟩ := lt1_some h
                                    rw [← e_σ69] at hW
                                    refine lv_iinc (v := x5 + 1) (lv' := [(5, .int (x5 + 1)), (0, .ref (ad 0)), (1, .int x1), (2, .int x2), (3, .int x3), (4, .int x4), (6, .int x6), (7, .int x7), (8, .int x8)]) hx hb d_MD_way_226 hl (k := 5) rfl rfl (by decide) rfl (fun ls hl => ?_)
                                    refine lv_goto (tgt := 90) hx hb d_MD_way_229 (by decide) ?_
                                    exact ih90 x1 x2 x3 x4 (x5 + 1) σ69 h _ _ hW _ (lv_sub hl [1, 2, 3, 4, 5, 0] rfl)
                                  · rw [if_neg c67] at h
                                    refine lv_aload_n hx hb d_MD_way_206 rfl (lv_at hl 0 rfl) ?_
                                    refine gf_MD_56 C hW.1 d_MD_way_207 ?_
                                    refine lv_iload hx hb d_MD_way_210 (lv_at hl 8 rfl) ?_
                                    obtain ⟨hin, h⟩ := gd_some h
                                    refine alR_16 C hW.1 hin d_MD_way_212 ?_
                                    refine lv_iconst (v := 1) hx hb d_MD_way_213 (by decide) ?_
                                    refine lv_iadd hx hb d_MD_way_214 ?_
                                    refine lv_goto (tgt := 225) hx hb d_MD_way_215 (by decide) ?_
                                    obtain ⟨hin, h⟩ := gd_some h
                                    refine asR_16 C hD hW hin d_MD_way_225 (fun H locs hW => ?_)
                                    obtain ⟨σ68, e_σ68, h⟩ := lt1_some h
                                    rw [← e_σ68] at hW
                                    refine lv_iinc (v := x5 + 1) (lv' := [(5, .int (x5 + 1)), (0, .ref (ad 0)), (1, .int x1), (2, .int x2), (3, .int x3), (4, .int x4), (6, .int x6), (7, .int x7), (8, .int x8)]) hx hb d_MD_way_226 hl (k := 5) rfl rfl (by decide) rfl (fun ls hl => ?_)
                                    refine lv_goto (tgt := 90) hx hb d_MD_way_229 (by decide) ?_
                                    exact ih90 x1 x2 x3 x4 (x5 + 1) σ68 h _ _ hW _ (lv_sub hl [1, 2, 3, 4, 5, 0] rfl)
                              exact k175 x1 x2 x3 x4 x5 r48 y49 y50 (σ 16 (Int32.toNatClampNeg y50)) y50 σ h _ _ hW _ (lv_sub hl [3, 4, 5, 6, 7, 8, 2, 1, 0] rfl)
                            · rw [if_neg c51] at h
                              refine lv_aload_n hx hb d_MD_way_137 rfl (lv_at hl 3 rfl) ?_
                              refine gf_MD_56 C hW.1 d_MD_way_138 ?_
                              refine lv_iload hx hb d_MD_way_141 (lv_at hl 1 rfl) ?_
                              obtain ⟨hin, h⟩ := gd_some h
                              refine alR_16 C hW.1 hin d_MD_way_143 ?_
                              refine lv_iconst (v := 1) hx hb d_MD_way_144 (by decide) ?_
                              refine lv_iadd hx hb d_MD_way_145 ?_
                              refine lv_aload_n hx hb d_MD_way_146 rfl (lv_at hl 3 rfl) ?_
                              refine gf_MD_56 C hW.1 d_MD_way_147 ?_
                              refine lv_iload hx hb d_MD_way_150 (lv_at hl 0 rfl) ?_
                              obtain ⟨hin, h⟩ := gd_some h
                              refine alR_16 C hW.1 hin d_MD_way_152 ?_
                              refine lv_icmp_ge (tgt := 168) hx hb d_MD_way_153 (by decide) (fun c52 => ?_) (fun c52 => ?_)
                              · rw [if_pos c52] at h
                                refine lv_aload_n hx hb d_MD_way_168 rfl (lv_at hl 3 rfl) ?_
                                refine gf_MD_56 C hW.1 d_MD_way_169 ?_
                                refine lv_iload hx hb d_MD_way_172 (lv_at hl 0 rfl) ?_
                                obtain ⟨hin, h⟩ := gd_some h
                                refine alR_16 C hW.1 hin d_MD_way_174 ?_
                                have k175 : ∀ (x1 : Int32) (x2 : Int32) (x3 : Int32) (x4 : Int32) (x5 : Int32) (x6 : Int32) (x7 : Int32) (x8 : Int32) (s0 : Int32) (s1 : Int32) (σ : Sg) (h : C_MD_way_175 (L_MD_way_80 n80) (L_MD_way_90 (L_MD_way_80 n80) n90) x1 x2 x3 x4 x5 x6 x7 x8 s0 s1 σ = some out) (H : Heap) (locs : List Loc) (hW : WR G ad cI cZ s σ H locs) (ls : Array Slot) (hl : lv_has ls 9 [(0, .ref (ad 0)), (1, .int x1), (2, .int x2), (3, .int x3), (4, .int x4), (5, .int x5), (6, .int x6), (7, .int x7), (8, .int x8)]), W p l e (headSpec wl_MD_way ({ frames := 2, cells := 0, slots := 0, locals := 63 } : Room)).room s m (([.ref (ad 0), .int a1, .int a2] : List Value).toArray) below meth c H locs 0 0 (MQ below (QRi G ad cI cZ out) (([.ref (ad 0), .int a1, .int a2] : List Value).toArray) s 0 0 (AR ad)) (F0 m 175 ls [.int s0, .int s1, .ref (ad 16)]) := by
                                  intro x1 x2 x3 x4 x5 x6 x7 x8 s0 s1 σ h H locs hW ls hl
                                  unfold C_MD_way_175 at h
                                  obtain ⟨hin, h⟩ := gd_some h
                                  refine asR_16 C hD hW hin d_MD_way_175 (fun H locs hW => ?_)
                                  obtain ⟨σ59, e_σ59, h⟩ := lt1_some h
                                  rw [← e_σ59] at hW
                                  refine lv_aload_n hx hb d_MD_way_176 rfl (lv_at hl 0 rfl) ?_
                                  refine gf_MD_56 C hW.1 d_MD_way_177 ?_
                                  refine lv_iload hx hb d_MD_way_180 (lv_at hl 7 rfl) ?_
                                  refine lv_iload hx hb d_MD_way_182 (lv_at hl 6 rfl) ?_
                                  refine lv_if_eq (tgt := 218) hx hb d_MD_way_184 (by decide) (fun c60 => ?_) (fun c60 => ?_)
                                  · rw [if_pos c60] at h
                                    refine lv_aload_n hx hb d_MD_way_218 rfl (lv_at hl 0 rfl) ?_
                                    refine gf_MD_56 C hW.1 d_MD_way_219 ?_
                                    refine lv_iload hx hb d_MD_way_222 (lv_at hl 7 rfl) ?_
                                    obtain ⟨hin, h⟩ := gd_some h
                                    refine alR_16 C hW.1 hin d_MD_way_224 ?_
                                    obtain ⟨hin, h⟩ := gd_some h
                                    refine asR_16 C hD hW hin d_MD_way_225 (fun H locs hW => ?_)
                                    obtain ⟨σ64, e_σ64, h⟩ := lt1_some h
                                    rw [← e_σ64] at hW
                                    refine lv_iinc (v := x5 + 1) (lv' := [(5, .int (x5 + 1)), (0, .ref (ad 0)), (1, .int x1), (2, .int x2), (3, .int x3), (4, .int x4), (6, .int x6), (7, .int x7), (8, .int x8)]) hx hb d_MD_way_226 hl (k := 5) rfl rfl (by decide) rfl (fun ls hl => ?_)
                                    refine lv_goto (tgt := 90) hx hb d_MD_way_229 (by decide) ?_
                                    exact ih90 x1 x2 x3 x4 (x5 + 1) σ64 h _ _ hW _ (lv_sub hl [1, 2, 3, 4, 5, 0] rfl)
                                  · rw [if_neg c60] at h
                                    refine lv_aload_n hx hb d_MD_way_187 rfl (lv_at hl 0 rfl) ?_
                                    refine gf_MD_56 C hW.1 d_MD_way_188 ?_
                                    refine lv_iload hx hb d_MD_way_191 (lv_at hl 8 rfl) ?_
                                    obtain ⟨hin, h⟩ := gd_some h
                                    refine alR_16 C hW.1 hin d_MD_way_193 ?_
                                    refine lv_iconst (v := 1) hx hb d_MD_way_194 (by decide) ?_
                                    refine lv_iadd hx hb d_MD_way_195 ?_
                                    refine lv_aload_n hx hb d_MD_way_196 rfl (lv_at hl 0 rfl) ?_
                                    refine gf_MD_56 C hW.1 d_MD_way_197 ?_
                                    refine lv_iload hx hb d_MD_way_200 (lv_at hl 7 rfl) ?_
                                    obtain ⟨hin, h⟩ := gd_some h
                                    refine alR_16 C hW.1 hin d_MD_way_202 ?_
                                    refine lv_icmp_ge (tgt := 218) hx hb d_MD_way_203 (by decide) (fun c61 => ?_) (fun c61 => ?_)
                                    · rw [if_pos c61] at h
                                      refine lv_aload_n hx hb d_MD_way_218 rfl (lv_at hl 0 rfl) ?_
                                      refine gf_MD_56 C hW.1 d_MD_way_219 ?_
                                      refine lv_iload hx hb d_MD_way_222 (lv_at hl 7 rfl) ?_
                                      obtain ⟨hin, h⟩ := gd_some h
                                      refine alR_16 C hW.1 hin d_MD_way_224 ?_
                                      obtain ⟨hin, h⟩ := gd_some h
                                      refine asR_16 C hD hW hin d_MD_way_225 (fun H locs hW => ?_)
                                      obtain ⟨σ63, e_σ63, h⟩ := lt1_some h
                                      rw [← e_σ63] at hW
                                      refine lv_iinc (v := x5 + 1) (lv' := [(5, .int (x5 + 1)), (0, .ref (ad 0)), (1, .int x1), (2, .int x2), (3, .int x3), (4, .int x4), (6, .int x6), (7, .int x7), (8, .int x8)]) hx hb d_MD_way_226 hl (k := 5) rfl rfl (by decide) rfl (fun ls hl => ?_)
                                      refine lv_goto (tgt := 90) hx hb d_MD_way_229 (by decide) ?_
                                      exact ih90 x1 x2 x3 x4 (x5 + 1) σ63 h _ _ hW _ (lv_sub hl [1, 2, 3, 4, 5, 0] rfl)
                                    · rw [if_neg c61] at h
                                      refine lv_aload_n hx hb d_MD_way_206 rfl (lv_at hl 0 rfl) ?_
                                      refine gf_MD_56 C hW.1 d_MD_way_207 ?_
                                      refine lv_iload hx hb d_MD_way_210 (lv_at hl 8 rfl) ?_
                                      obtain ⟨hin, h⟩ := gd_some h
                                      refine alR_16 C hW.1 hin d_MD_way_212 ?_
                                      refine lv_iconst (v := 1) hx hb d_MD_way_213 (by decide) ?_
                                      refine lv_iadd hx hb d_MD_way_214 ?_
                                      refine lv_goto (tgt := 225) hx hb d_MD_way_215 (by decide) ?_
                                      obtain ⟨hin, h⟩ := gd_some h
                                      refine asR_16 C hD hW hin d_MD_way_225 (fun H locs hW => ?_)
                                      obtain ⟨σ62, e_σ62, h⟩ := lt1_some h
                                      rw [← e_σ62] at hW
                                      refine lv_iinc (v := x5 + 1) (lv' := [(5, .int (x5 + 1)), (0, .ref (ad 0)), (1, .int x1), (2, .int x2), (3, .int x3), (4, .int x4), (6, .int x6), (7, .int x7), (8, .int x8)]) hx hb d_MD_way_226 hl (k := 5) rfl rfl (by decide) rfl (fun ls hl => ?_)
                                      refine lv_goto (tgt := 90) hx hb d_MD_way_229 (by decide) ?_
                                      exact ih90 x1 x2 x3 x4 (x5 + 1) σ62 h _ _ hW _ (lv_sub hl [1, 2, 3, 4, 5, 0] rfl)
                                exact k175 x1 x2 x3 x4 x5 r48 y49 y50 (σ 16 (Int32.toNatClampNeg y50)) y50 σ h _ _ hW _ (lv_sub hl [3, 4, 5, 6, 7, 8, 2, 1, 0] rfl)
                              · rw [if_neg c52] at h
                                refine lv_aload_n hx hb d_MD_way_156 rfl (lv_at hl 3 rfl) ?_
                                refine gf_MD_56 C hW.1 d_MD_way_157 ?_
                                refine lv_iload hx hb d_MD_way_160 (lv_at hl 1 rfl) ?_
                                obtain ⟨hin, h⟩ := gd_some h
                                refine alR_16 C hW.1 hin d_MD_way_162 ?_
                                refine lv_iconst (v := 1) hx hb d_MD_way_163 (by decide) ?_
                                refine lv_iadd hx hb d_MD_way_164 ?_
                                refine lv_goto (tgt := 175) hx hb d_MD_way_165 (by decide) ?_
                                have k175 : ∀ (x1 : Int32) (x2 : Int32) (x3 : Int32) (x4 : Int32) (x5 : Int32) (x6 : Int32) (x7 : Int32) (x8 : Int32) (s0 : Int32) (s1 : Int32) (σ : Sg) (h : C_MD_way_175 (L_MD_way_80 n80) (L_MD_way_90 (L_MD_way_80 n80) n90) x1 x2 x3 x4 x5 x6 x7 x8 s0 s1 σ = some out) (H : Heap) (locs : List Loc) (hW : WR G ad cI cZ s σ H locs) (ls : Array Slot) (hl : lv_has ls 9 [(0, .ref (ad 0)), (1, .int x1), (2, .int x2), (3, .int x3), (4, .int x4), (5, .int x5), (6, .int x6), (7, .int x7), (8, .int x8)]), W p l e (headSpec wl_MD_way ({ frames := 2, cells := 0, slots := 0, locals := 63 } : Room)).room s m (([.ref (ad 0), .int a1, .int a2] : List Value).toArray) below meth c H locs 0 0 (MQ below (QRi G ad cI cZ out) (([.ref (ad 0), .int a1, .int a2] : List Value).toArray) s 0 0 (AR ad)) (F0 m 175 ls [.int s0, .int s1, .ref (ad 16)]) := by
                                  intro x1 x2 x3 x4 x5 x6 x7 x8 s0 s1 σ h H locs hW ls hl
                                  unfold C_MD_way_175 at h
                                  obtain ⟨hin, h⟩ := gd_some h
                                  refine asR_16 C hD hW hin d_MD_way_175 (fun H locs hW => ?_)
                                  obtain ⟨σ53, e_σ53, h⟩ := lt1_some h
                                  rw [← e_σ53] at hW
                                  refine lv_aload_n hx hb d_MD_way_176 rfl (lv_at hl 0 rfl) ?_
                                  refine gf_MD_56 C hW.1 d_MD_way_177 ?_
                                  refine lv_iload hx hb d_MD_way_180 (lv_at hl 7 rfl) ?_
                                  refine lv_iload hx hb d_MD_way_182 (lv_at hl 6 rfl) ?_
                                  refine lv_if_eq (tgt := 218) hx hb d_MD_way_184 (by decide) (fun c54 => ?_) (fun c54 => ?_)
                                  · rw [if_pos c54] at h
                                    refine lv_aload_n hx hb d_MD_way_218 rfl (lv_at hl 0 rfl) ?_
                                    refine gf_MD_56 C hW.1 d_MD_way_219 ?_
                                    refine lv_iload hx hb d_MD_way_222 (lv_at hl 7 rfl) ?_
                                    obtain ⟨hin, h⟩ := gd_some h
                                    refine alR_16 C hW.1 hin d_MD_way_224 ?_
                                    obtain ⟨hin, h⟩ := gd_some h
                                    refine asR_16 C hD hW hin d_MD_way_225 (fun H locs hW => ?_)
                                    obtain ⟨σ58, e_σ58, h⟩ := lt1_some h
                                    rw [← e_σ58] at hW
                                    refine lv_iinc (v := x5 + 1) (lv' := [(5, .int (x5 + 1)), (0, .ref (ad 0)), (1, .int x1), (2, .int x2), (3, .int x3), (4, .int x4), (6, .int x6), (7, .int x7), (8, .int x8)]) hx hb d_MD_way_226 hl (k := 5) rfl rfl (by decide) rfl (fun ls hl => ?_)
                                    refine lv_goto (tgt := 90) hx hb d_MD_way_229 (by decide) ?_
                                    exact ih90 x1 x2 x3 x4 (x5 + 1) σ58 h _ _ hW _ (lv_sub hl [1, 2, 3, 4, 5, 0] rfl)
                                  · rw [if_neg c54] at h
                                    refine lv_aload_n hx hb d_MD_way_187 rfl (lv_at hl 0 rfl) ?_
                                    refine gf_MD_56 C hW.1 d_MD_way_188 ?_
                                    refine lv_iload hx hb d_MD_way_191 (lv_at hl 8 rfl) ?_
                                    obtain ⟨hin, h⟩ := gd_some h
                                    refine alR_16 C hW.1 hin d_MD_way_193 ?_
                                    refine lv_iconst (v := 1) hx hb d_MD_way_194 (by decide) ?_
                                    refine lv_iadd hx hb d_MD_way_195 ?_
                                    refine lv_aload_n hx hb d_MD_way_196 rfl (lv_at hl 0 rfl) ?_
                                    refine gf_MD_56 C hW.1 d_MD_way_197 ?_
                                    refine lv_iload hx hb d_MD_way_200 (lv_at hl 7 rfl) ?_
                                    obtain ⟨hin, h⟩ := gd_some h
                                    refine alR_16 C hW.1 hin d_MD_way_202 ?_
                                    refine lv_icmp_ge (tgt := 218) hx hb d_MD_way_203 (by decide) (fun c55 => ?_) (fun c55 => ?_)
                                    · rw [if_pos c55] at h
                                      refine lv_aload_n hx hb d_MD_way_218 rfl (lv_at hl 0 rfl) ?_
                                      refine gf_MD_56 C hW.1 d_MD_way_219 ?_
                                      refine lv_iload hx hb d_MD_way_222 (lv_at hl 7 rfl) ?_
                                      obtain ⟨hin, h⟩ := gd_some h
                                      refine alR_16 C hW.1 hin d_MD_way_224 ?_
                                      obtain ⟨hin, h⟩ := gd_some h
                                      refine asR_16 C hD hW hin d_MD_way_225 (fun H locs hW => ?_)
                                      obtain ⟨σ57, e_σ57, h⟩ := lt1_some h
                                      rw [← e_σ57] at hW
                                      refine lv_iinc (v := x5 + 1) (lv' := [(5, .int (x5 + 1)), (0, .ref (ad 0)), (1, .int x1), (2, .int x2), (3, .int x3), (4, .int x4), (6, .int x6), (7, .int x7), (8, .int x8)]) hx hb d_MD_way_226 hl (k := 5) rfl rfl (by decide) rfl (fun ls hl => ?_)
                                      refine lv_goto (tgt := 90) hx hb d_MD_way_229 (by decide) ?_
                                      exact ih90 x1 x2 x3 x4 (x5 + 1) σ57 h _ _ hW _ (lv_sub hl [1, 2, 3, 4, 5, 0] rfl)
                                    · rw [if_neg c55] at h
                                      refine lv_aload_n hx hb d_MD_way_206 rfl (lv_at hl 0 rfl) ?_
                                      refine gf_MD_56 C hW.1 d_MD_way_207 ?_
                                      refine lv_iload hx hb d_MD_way_210 (lv_at hl 8 rfl) ?_
                                      obtain ⟨hin, h⟩ := gd_some h
                                      refine alR_16 C hW.1 hin d_MD_way_212 ?_
                                      refine lv_iconst (v := 1) hx hb d_MD_way_213 (by decide) ?_
                                      refine lv_iadd hx hb d_MD_way_214 ?_
                                      refine lv_goto (tgt := 225) hx hb d_MD_way_215 (by decide) ?_
                                      obtain ⟨hin, h⟩ := gd_some h
                                      refine asR_16 C hD hW hin d_MD_way_225 (fun H locs hW => ?_)
                                      obtain ⟨σ56, e_σ56, h⟩ := lt1_some h
                                      rw [← e_σ56] at hW
                                      refine lv_iinc (v := x5 + 1) (lv' := [(5, .int (x5 + 1)), (0, .ref (ad 0)), (1, .int x1), (2, .int x2), (3, .int x3), (4, .int x4), (6, .int x6), (7, .int x7), (8, .int x8)]) hx hb d_MD_way_226 hl (k := 5) rfl rfl (by decide) rfl (fun ls hl => ?_)
                                      refine lv_goto (tgt := 90) hx hb d_MD_way_229 (by decide) ?_
                                      exact ih90 x1 x2 x3 x4 (x5 + 1) σ56 h _ _ hW _ (lv_sub hl [1, 2, 3, 4, 5, 0] rfl)
                                exact k175 x1 x2 x3 x4 x5 r48 y49 y50 ((σ 16 (Int32.toNatClampNeg y49)) + 1) y50 σ h _ _ hW _ (lv_sub hl [3, 4, 5, 6, 7, 8, 2, 1, 0] rfl)
                      exact k90 _ x1 x2 x3 x4 0 σ h _ _ hW _ (lv_sub hl [1, 2, 3, 4, 5, 0] rfl)
                exact k80 _ x1 x2 x3 0 σ h _ _ hW _ (lv_sub hl [1, 2, 3, 4, 0] rfl)
              · rw [if_neg c42] at h
                refine lv_aload_n hx hb d_MD_way_52 rfl (lv_at hl 0 rfl) ?_
                refine gf_MD_56 C hW.1 d_MD_way_53 ?_
                refine lv_iload hx hb d_MD_way_56 (lv_at hl 4 rfl) ?_
                refine lv_iload hx hb d_MD_way_58 (lv_at hl 4 rfl) ?_
                refine lv_iload_n hx hb d_MD_way_60 rfl (lv_at hl 3 rfl) ?_
                refine lv_icmp_ne (tgt := 68) hx hb d_MD_way_61 (by decide) (fun c43 => ?_) (fun c43 => ?_)
                · rw [if_neg c43] at h
                  refine lv_bipush (v := 99) hx hb d_MD_way_68 (by decide) ?_
                  obtain ⟨hin, h⟩ := gd_some h
                  refine asR_16 C hD hW hin d_MD_way_70 (fun H locs hW => ?_)
                  obtain ⟨σ45, e_σ45, h⟩ := lt1_some h
                  rw [← e_σ45] at hW
                  refine lv_iinc (v := x4 + 1) (lv' := [(4, .int (x4 + 1)), (0, .ref (ad 0)), (1, .int x1), (2, .int x2), (3, .int x3)]) hx hb d_MD_way_71 hl (k := 4) rfl rfl (by decide) rfl (fun ls hl => ?_)
                  refine lv_goto (tgt := 45) hx hb d_MD_way_74 (by decide) ?_
                  exact ih45 x1 x2 x3 (x4 + 1) σ45 h _ _ hW _ (lv_sub hl [1, 2, 3, 4, 0] rfl)
                · rw [if_pos c43] at h
                  refine lv_iconst (v := 0) hx hb d_MD_way_64 (by decide) ?_
                  refine lv_goto (tgt := 70) hx hb d_MD_way_65 (by decide) ?_
                  obtain ⟨hin, h⟩ := gd_some h
                  refine asR_16 C hD hW hin d_MD_way_70 (fun H locs hW => ?_)
                  obtain ⟨σ44, e_σ44, h⟩ := lt1_some h
                  rw [← e_σ44] at hW
                  refine lv_iinc (v := x4 + 1) (lv' := [(4, .int (x4 + 1)), (0, .ref (ad 0)), (1, .int x1), (2, .int x2), (3, .int x3)]) hx hb d_MD_way_71 hl (k := 4) rfl rfl (by decide) rfl (fun ls hl => ?_)
                  refine lv_goto (tgt := 45) hx hb d_MD_way_74 (by decide) ?_
                  exact ih45 x1 x2 x3 (x4 + 1) σ44 h _ _ hW _ (lv_sub hl [1, 2, 3, 4, 0] rfl)
          exact k45 _ x1 x2 r41 0 r39.2 h _ _ hW _ (lv_sub hl [2, 3, 4, 1, 0] rfl)
        · rw [if_pos c40] at h
          refine lv_iconst (v := 0) hx hb d_MD_way_30 (by decide) ?_
          exact W.iret hx hb hr (fun t ht _ => qr_i h ht hW) hW.2.2.2 d_MD_way_31
      exact k21 a1 a2 σ h _ _ hW _ (lv_sub hl [0, 1, 2] rfl)
    · rw [if_neg c4] at h
      refine lv_iconst (v := 1) hx hb d_MD_way_17 (by decide) ?_
      refine lv_goto (tgt := 22) hx hb d_MD_way_18 (by decide) ?_
      refine lv_iconst (v := 1) hx hb d_MD_way_22 (by decide) ?_
      refine lv_iconst (v := 1) hx hb d_MD_way_23 (by decide) ?_
      obtain ⟨r5, g_r5, h⟩ := ob_some h
      refine cl_MD_102 (rest := []) C hD (hml.trans hl.1.symm) hW g_r5 ⟨Nat.le_of_ble_eq_true rfl, Nat.le_of_ble_eq_true rfl⟩ (Nat.le_of_ble_eq_true rfl) d_MD_way_24 ⟨Nat.zero_le _, Nat.zero_le _⟩ (fun H locs hW => ?_)
      refine lv_if_ne (tgt := 32) hx hb d_MD_way_27 (by decide) (fun c6 => ?_) (fun c6 => ?_)
      · rw [if_neg c6] at h
        refine lv_aload_n hx hb d_MD_way_32 rfl (lv_at hl 0 rfl) ?_
        refine lv_iload_n hx hb d_MD_way_33 rfl (lv_at hl 1 rfl) ?_
        refine lv_aload_n hx hb d_MD_way_34 rfl (lv_at hl 0 rfl) ?_
        refine gf_MD_145 C hW.1 d_MD_way_35 ?_
        obtain ⟨r7, g_r7, h⟩ := ob_some h
        refine cl_MD_130 (rest := []) C (hml.trans hl.1.symm) hW.1 g_r7 ⟨Nat.le_of_ble_eq_true rfl, Nat.le_of_ble_eq_true rfl⟩ (Nat.le_of_ble_eq_true rfl) d_MD_way_38 ⟨Nat.zero_le _, Nat.zero_le _⟩ ?_
        refine lv_istore_n (lv' := [(3, .int r7), (0, .ref (ad 0)), (1, .int a1), (2, .int a2)]) hx hb d_MD_way_41 rfl hl (by decide) rfl (fun ls hl => ?_)
        refine lv_iconst (v := 0) hx hb d_MD_way_42 (by decide) ?_
        refine lv_istore (lv' := [(4, .int 0), (3, .int r7), (0, .ref (ad 0)), (1, .int a1), (2, .int a2)]) hx hb d_MD_way_43 hl (by decide) rfl (fun ls hl => ?_)
        have k45 : ∀ (n45 : Nat) (x1 : Int32) (x2 : Int32) (x3 : Int32) (x4 : Int32) (σ : Sg) (h : L_MD_way_45 n45 x1 x2 x3 x4 σ = some out) (H : Heap) (locs : List Loc) (hW : WR G ad cI cZ s σ H locs) (ls : Array Slot) (hl : lv_has ls 9 [(0, .ref (ad 0)), (1, .int x1), (2, .int x2), (3, .int x3), (4, .int x4)]), W p l e (headSpec wl_MD_way ({ frames := 2, cells := 0, slots := 0, locals := 63 } : Room)).room s m (([.ref (ad 0), .int a1, .int a2] : List Value).toArray) below meth c H locs 0 0 (MQ below (QRi G ad cI cZ out) (([.ref (ad 0), .int a1, .int a2] : List Value).toArray) s 0 0 (AR ad)) (F0 m 45 ls []) := by
          intro n45
          induction n45 with
          | zero =>
            intro x1 x2 x3 x4 σ h
            exact absurd h (by intro z; cases z)
          | succ n45 ih45 =>
            intro x1 x2 x3 x4 σ h H locs hW ls hl
            replace h : B_MD_way_45 (L_MD_way_45 n45) x1 x2 x3 x4 σ = some out := h
            unfold B_MD_way_45 at h
            refine lv_iload hx hb d_MD_way_45 (lv_at hl 4 rfl) ?_
            refine lv_bipush (v := 24) hx hb d_MD_way_47 (by decide) ?_
            refine lv_icmp_ge (tgt := 77) hx hb d_MD_way_49 (by decide) (fun c8 => ?_) (fun c8 => ?_)
            · rw [if_pos c8] at h
              refine lv_iconst (v := 0) hx hb d_MD_way_77 (by decide) ?_
              refine lv_istore (lv' := [(4, .int 0), (0, .ref (ad 0)), (1, .int x1), (2, .int x2), (3, .int x3)]) hx hb d_MD_way_78 hl (by decide) rfl (fun ls hl => ?_)
              have k80 : ∀ (n80 : Nat) (x1 : Int32) (x2 : Int32) (x3 : Int32) (x4 : Int32) (σ : Sg) (h : L_MD_way_80 n80 x1 x2 x3 x4 σ = some out) (H : Heap) (locs : List Loc) (hW : WR G ad cI cZ s σ H locs) (ls : Array Slot) (hl : lv_has ls 9 [(0, .ref (ad 0)), (1, .int x1), (2, .int x2), (3, .int x3), (4, .int x4)]), W p l e (headSpec wl_MD_way ({ frames := 2, cells := 0, slots := 0, locals := 63 } : Room)).room s m (([.ref (ad 0), .int a1, .int a2] : List Value).toArray) below meth c H locs 0 0 (MQ below (QRi G ad cI cZ out) (([.ref (ad 0), .int a1, .int a2] : List Value).toArray) s 0 0 (AR ad)) (F0 m 80 ls []) := by
                intro n80
                induction n80 with
                | zero =>
                  intro x1 x2 x3 x4 σ h
                  exact absurd h (by intro z; cases z)
                | succ n80 ih80 =>
                  intro x1 x2 x3 x4 σ h H locs hW ls hl
                  replace h : B_MD_way_80 (L_MD_way_80 n80) x1 x2 x3 x4 σ = some out := h
                  unfold B_MD_way_80 at h
                  refine lv_iload hx hb d_MD_way_80 (lv_at hl 4 rfl) ?_
                  refine lv_bipush (v := 24) hx hb d_MD_way_82 (by decide) ?_
                  refine lv_icmp_ge (tgt := 238) hx hb d_MD_way_84 (by decide) (fun c12 => ?_) (fun c12 => ?_)
                  · rw [if_pos c12] at h
                    refine lv_iload_n hx hb d_MD_way_238 rfl (lv_at hl 3 rfl) ?_
                    refine lv_iconst (v := (-1)) hx hb d_MD_way_239 (by decide) ?_
                    refine lv_icmp_eq (tgt := 254) hx hb d_MD_way_240 (by decide) (fun c37 => ?_) (fun c37 => ?_)
                    · rw [if_pos c37] at h
                      refine lv_iconst (v := (-1)) hx hb d_MD_way_254 (by decide) ?_
                      refine lv_goto (tgt := 264) hx hb d_MD_way_255 (by decide) ?_
                      exact W.iret hx hb hr (fun t ht _ => qr_i h ht hW) hW.2.2.2 d_MD_way_264
                    · rw [if_neg c37] at h
                      refine lv_aload_n hx hb d_MD_way_243 rfl (lv_at hl 0 rfl) ?_
                      refine gf_MD_56 C hW.1 d_MD_way_244 ?_
                      refine lv_iload_n hx hb d_MD_way_247 rfl (lv_at hl 2 rfl) ?_
                      obtain ⟨hin, h⟩ := gd_some h
                      refine alR_16 C hW.1 hin d_MD_way_248 ?_
                      refine lv_bipush (v := 24) hx hb d_MD_way_249 (by decide) ?_
                      refine lv_icmp_le (tgt := 258) hx hb d_MD_way_251 (by decide) (fun c38 => ?_) (fun c38 => ?_)
                      · rw [if_pos c38] at h
                        refine lv_aload_n hx hb d_MD_way_258 rfl (lv_at hl 0 rfl) ?_
                        refine gf_MD_56 C hW.1 d_MD_way_259 ?_
                        refine lv_iload_n hx hb d_MD_way_262 rfl (lv_at hl 2 rfl) ?_
                        obtain ⟨hin, h⟩ := gd_some h
                        refine alR_16 C hW.1 hin d_MD_way_263 ?_
                        exact W.iret hx hb hr (fun t ht _ => qr_i h ht hW) hW.2.2.2 d_MD_way_264
                      · rw [if_neg c38] at h
                        refine lv_iconst (v := (-1)) hx hb d_MD_way_254 (by decide) ?_
                        refine lv_goto (tgt := 264) hx hb d_MD_way_255 (by decide) ?_
                        exact W.iret hx hb hr (fun t ht _ => qr_i h ht hW) hW.2.2.2 d_MD_way_264
                  · rw [if_neg c12] at h
                    refine lv_iconst (v := 0) hx hb d_MD_way_87 (by decide) ?_
                    refine lv_istore (lv' := [(5, .int 0), (0, .ref (ad 0)), (1, .int x1), (2, .int x2), (3, .int x3), (4, .int x4)]) hx hb d_MD_way_88 hl (by decide) rfl (fun ls hl => ?_)
                    have k90 : ∀ (n90 : Nat) (x1 : Int32) (x2 : Int32) (x3 : Int32) (x4 : Int32) (x5 : Int32) (σ : Sg) (h : L_MD_way_90 (L_MD_way_80 n80) n90 x1 x2 x3 x4 x5 σ = some out) (H : Heap) (locs : List Loc) (hW : WR G ad cI cZ s σ H locs) (ls : Array Slot) (hl : lv_has ls 9 [(0, .ref (ad 0)), (1, .int x1), (2, .int x2), (3, .int x3), (4, .int x4), (5, .int x5)]), W p l e (headSpec wl_MD_way ({ frames := 2, cells := 0, slots := 0, locals := 63 } : Room)).room s m (([.ref (ad 0), .int a1, .int a2] : List Value).toArray) below meth c H locs 0 0 (MQ below (QRi G ad cI cZ out) (([.ref (ad 0), .int a1, .int a2] : List Value).toArray) s 0 0 (AR ad)) (F0 m 90 ls []) := by
                      intro n90
                      induction n90 with
                      | zero =>
                        intro x1 x2 x3 x4 x5 σ h
                        exact absurd h (by intro z; cases z)
                      | succ n90 ih90 =>
                        intro x1 x2 x3 x4 x5 σ h H locs hW ls hl
                        replace h : B_MD_way_90 (L_MD_way_80 n80) (L_MD_way_90 (L_MD_way_80 n80) n90) x1 x2 x3 x4 x5 σ = some out := h
                        unfold B_MD_way_90 at h
                        refine lv_iload hx hb d_MD_way_90 (lv_at hl 5 rfl) ?_
                        refine lv_aload_n hx hb d_MD_way_92 rfl (lv_at hl 0 rfl) ?_
                        refine gf_MD_170 C hW.1 d_MD_way_93 ?_
                        refine lv_icmp_ge (tgt := 232) hx hb d_MD_way_96 (by decide) (fun c13 => ?_) (fun c13 => ?_)
                        · rw [if_pos c13] at h
                          refine lv_iinc (v := x4 + 1) (lv' := [(4, .int (x4 + 1)), (0, .ref (ad 0)), (1, .int x1), (2, .int x2), (3, .int x3), (5, .int x5)]) hx hb d_MD_way_232 hl (k := 4) rfl rfl (by decide) rfl (fun ls hl => ?_)
                          refine lv_goto (tgt := 80) hx hb d_MD_way_235 (by decide) ?_
                          exact ih80 x1 x2 x3 (x4 + 1) σ h _ _ hW _ (lv_sub hl [1, 2, 3, 4, 0] rfl)
                        · rw [if_neg c13] at h
                          refine lv_aload_n hx hb d_MD_way_99 rfl (lv_at hl 0 rfl) ?_
                          refine lv_iload_n hx hb d_MD_way_100 rfl (lv_at hl 1 rfl) ?_
                          refine lv_iload hx hb d_MD_way_101 (lv_at hl 5 rfl) ?_
                          obtain ⟨r14, g_r14, h⟩ := ob_some h
                          refine cl_MD_179 (rest := []) C (hml.trans hl.1.symm) hW.1 g_r14 ⟨Nat.le_of_ble_eq_true rfl, Nat.le_of_ble_eq_true rfl⟩ (Nat.le_of_ble_eq_true rfl) d_MD_way_103 ⟨Nat.zero_le _, Nat.zero_le _⟩ ?_
                          refine lv_istore (lv' := [(6, .int r14), (0, .ref (ad 0)), (1, .int x1), (2, .int x2), (3, .int x3), (4, .int x4), (5, .int x5)]) hx hb d_MD_way_106 hl (by decide) rfl (fun ls hl => ?_)
                          refine lv_aload_n hx hb d_MD_way_108 rfl (lv_at hl 1 rfl) ?_
                          refine gf_MD_44 C hW.1 d_MD_way_109 ?_
                          refine lv_iload hx hb d_MD_way_112 (lv_at hl 6 rfl) ?_
                          obtain ⟨hin, h⟩ := gd_some h
                          refine alR_12 C hW.1 hin d_MD_way_114 ?_
                          obtain ⟨y15, e_y15, h⟩ := lt1_some h
                          refine W.eq (g2 := F0 m 115 ls (.int y15 :: [])) (by rw [e_y15]) ?_
                          refine lv_istore (lv' := [(7, .int y15), (6, .int r14), (0, .ref (ad 0)), (1, .int x1), (2, .int x2), (3, .int x3), (4, .int x4), (5, .int x5)]) hx hb d_MD_way_115 hl (by decide) rfl (fun ls hl => ?_)
                          refine lv_aload_n hx hb d_MD_way_117 rfl (lv_at hl 2 rfl) ?_
                          refine gf_MD_47 C hW.1 d_MD_way_118 ?_
                          refine lv_iload hx hb d_MD_way_121 (lv_at hl 7 rfl) ?_
                          obtain ⟨hin, h⟩ := gd_some h
                          refine alR_13 C hW.1 hin d_MD_way_123 ?_
                          obtain ⟨y16, e_y16, h⟩ := lt1_some h
                          refine W.eq (g2 := F0 m 124 ls (.int y16 :: [])) (by rw [e_y16]) ?_
                          refine lv_istore (lv' := [(8, .int y16), (7, .int y15), (6, .int r14), (0, .ref (ad 0)), (1, .int x1), (2, .int x2), (3, .int x3), (4, .int x4), (5, .int x5)]) hx hb d_MD_way_124 hl (by decide) rfl (fun ls hl => ?_)
                          refine lv_aload_n hx hb d_MD_way_126 rfl (lv_at hl 3 rfl) ?_
                          refine gf_MD_56 C hW.1 d_MD_way_127 ?_
                          refine lv_iload hx hb d_MD_way_130 (lv_at hl 0 rfl) ?_
                          refine lv_iload hx hb d_MD_way_132 (lv_at hl 2 rfl) ?_
                          refine lv_if_eq (tgt := 168) hx hb d_MD_way_134 (by decide) (fun c17 => ?_) (fun c17 => ?_)
                          · rw [if_pos c17] at h
                            refine lv_aload_n hx hb d_MD_way_168 rfl (lv_at hl 3 rfl) ?_
                            refine gf_MD_56 C hW.1 d_MD_way_169 ?_
                            refine lv_iload hx hb d_MD_way_172 (lv_at hl 0 rfl) ?_
                            obtain ⟨hin, h⟩ := gd_some h
                            refine alR_16 C hW.1 hin d_MD_way_174 ?_
                            have k175 : ∀ (x1 : Int32) (x2 : Int32) (x3 : Int32) (x4 : Int32) (x5 : Int32) (x6 : Int32) (x7 : Int32) (x8 : Int32) (s0 : Int32) (s1 : Int32) (σ : Sg) (h : C_MD_way_175 (L_MD_way_80 n80) (L_MD_way_90 (L_MD_way_80 n80) n90) x1 x2 x3 x4 x5 x6 x7 x8 s0 s1 σ = some out) (H : Heap) (locs : List Loc) (hW : WR G ad cI cZ s σ H locs) (ls : Array Slot) (hl : lv_has ls 9 [(0, .ref (ad 0)), (1, .int x1), (2, .int x2), (3, .int x3), (4, .int x4), (5, .int x5), (6, .int x6), (7, .int x7), (8, .int x8)]), W p l e (headSpec wl_MD_way ({ frames := 2, cells := 0, slots := 0, locals := 63 } : Room)).room s m (([.ref (ad 0), .int a1, .int a2] : List Value).toArray) below meth c H locs 0 0 (MQ below (QRi G ad cI cZ out) (([.ref (ad 0), .int a1, .int a2] : List Value).toArray) s 0 0 (AR ad)) (F0 m 175 ls [.int s0, .int s1, .ref (ad 16)]) := by
                              intro x1 x2 x3 x4 x5 x6 x7 x8 s0 s1 σ h H locs hW ls hl
                              unfold C_MD_way_175 at h
                              obtain ⟨hin, h⟩ := gd_some h
                              refine asR_16 C hD hW hin d_MD_way_175 (fun H locs hW => ?_)
                              obtain ⟨σ31, e_σ31, h⟩ := lt1_some h
                              rw [← e_σ31] at hW
                              refine lv_aload_n hx hb d_MD_way_176 rfl (lv_at hl 0 rfl) ?_
                              refine gf_MD_56 C hW.1 d_MD_way_177 ?_
                              refine lv_iload hx hb d_MD_way_180 (lv_at hl 7 rfl) ?_
                              refine lv_iload hx hb d_MD_way_182 (lv_at hl 6 rfl) ?_
                              refine lv_if_eq (tgt := 218) hx hb d_MD_way_184 (by decide) (fun c32 => ?_) (fun c32 => ?_)
                              · rw [if_pos c32] at h
                                refine lv_aload_n hx hb d_MD_way_218 rfl (lv_at hl 0 rfl) ?_
                                refine gf_MD_56 C hW.1 d_MD_way_219 ?_
                                refine lv_iload hx hb d_MD_way_222 (lv_at hl 7 rfl) ?_
                                obtain ⟨hin, h⟩ := gd_some h
                                refine alR_16 C hW.1 hin d_MD_way_224 ?_
                                obtain ⟨hin, h⟩ := gd_some h
                                refine asR_16 C hD hW hin d_MD_way_225 (fun H locs hW => ?_)
                                obtain ⟨σ36, e_σ36, h⟩ := lt1_some h
                                rw [← e_σ36] at hW
                                refine lv_iinc (v := x5 + 1) (lv' := [(5, .int (x5 + 1)), (0, .ref (ad 0)), (1, .int x1), (2, .int x2), (3, .int x3), (4, .int x4), (6, .int x6), (7, .int x7), (8, .int x8)]) hx hb d_MD_way_226 hl (k := 5) rfl rfl (by decide) rfl (fun ls hl => ?_)
                                refine lv_goto (tgt := 90) hx hb d_MD_way_229 (by decide) ?_
                                exact ih90 x1 x2 x3 x4 (x5 + 1) σ36 h _ _ hW _ (lv_sub hl [1, 2, 3, 4, 5, 0] rfl)
                              · rw [if_neg c32] at h
                                refine lv_aload_n hx hb d_MD_way_187 rfl (lv_at hl 0 rfl) ?_
                                refine gf_MD_56 C hW.1 d_MD_way_188 ?_
                                refine lv_iload hx hb d_MD_way_191 (lv_at hl 8 rfl) ?_
                                obtain ⟨hin, h⟩ := gd_some h
                                refine alR_16 C hW.1 hin d_MD_way_193 ?_
                                refine lv_iconst (v := 1) hx hb d_MD_way_194 (by decide) ?_
                                refine lv_iadd hx hb d_MD_way_195 ?_
                                refine lv_aload_n hx hb d_MD_way_196 rfl (lv_at hl 0 rfl) ?_
                                refine gf_MD_56 C hW.1 d_MD_way_197 ?_
                                refine lv_iload hx hb d_MD_way_200 (lv_at hl 7 rfl) ?_
                                obtain ⟨hin, h⟩ := gd_some h
                                refine alR_16 C hW.1 hin d_MD_way_202 ?_
                                refine lv_icmp_ge (tgt := 218) hx hb d_MD_way_203 (by decide) (fun c33 => ?_) (fun c33 => ?_)
                                · rw [if_pos c33] at h
                                  refine lv_aload_n hx hb d_MD_way_218 rfl (lv_at hl 0 rfl) ?_
                                  refine gf_MD_56 C hW.1 d_MD_way_219 ?_
                                  refine lv_iload hx hb d_MD_way_222 (lv_at hl 7 rfl) ?_
                                  obtain ⟨hin, h⟩ := gd_some h
                                  refine alR_16 C hW.1 hin d_MD_way_224 ?_
                                  obtain ⟨hin, h⟩ := gd_some h
                                  refine asR_16 C hD hW hin d_MD_way_225 (fun H locs hW => ?_)
                                  obtain ⟨σ35, e_σ35, h⟩ := lt1_some h
                                  rw [← e_σ35] at hW
                                  refine lv_iinc (v := x5 + 1) (lv' := [(5, .int (x5 + 1)), (0, .ref (ad 0)), (1, .int x1), (2, .int x2), (3, .int x3), (4, .int x4), (6, .int x6), (7, .int x7), (8, .int x8)]) hx hb d_MD_way_226 hl (k := 5) rfl rfl (by decide) rfl (fun ls hl => ?_)
                                  refine lv_goto (tgt := 90) hx hb d_MD_way_229 (by decide) ?_
                                  exact ih90 x1 x2 x3 x4 (x5 + 1) σ35 h _ _ hW _ (lv_sub hl [1, 2, 3, 4, 5, 0] rfl)
                                · rw [if_neg c33] at h
                                  refine lv_aload_n hx hb d_MD_way_206 rfl (lv_at hl 0 rfl) ?_
                                  refine gf_MD_56 C hW.1 d_MD_way_207 ?_
                                  refine lv_iload hx hb d_MD_way_210 (lv_at hl 8 rfl) ?_
                                  obtain ⟨hin, h⟩ := gd_some h
                                  refine alR_16 C hW.1 hin d_MD_way_212 ?_
                                  refine lv_iconst (v := 1) hx hb d_MD_way_213 (by decide) ?_
                                  refine lv_iadd hx hb d_MD_way_214 ?_
                                  refine lv_goto (tgt := 225) hx hb d_MD_way_215 (by decide) ?_
                                  obtain ⟨hin, h⟩ := gd_some h
                                  refine asR_16 C hD hW hin d_MD_way_225 (fun H locs hW => ?_)
                                  obtain ⟨σ34, e_σ34, h⟩ := lt1_some h
                                  rw [← e_σ34] at hW
                                  refine lv_iinc (v := x5 + 1) (lv' := [(5, .int (x5 + 1)), (0, .ref (ad 0)), (1, .int x1), (2, .int x2), (3, .int x3), (4, .int x4), (6, .int x6), (7, .int x7), (8, .int x8)]) hx hb d_MD_way_226 hl (k := 5) rfl rfl (by decide) rfl (fun ls hl => ?_)
                                  refine lv_goto (tgt := 90) hx hb d_MD_way_229 (by decide) ?_
                                  exact ih90 x1 x2 x3 x4 (x5 + 1) σ34 h _ _ hW _ (lv_sub hl [1, 2, 3, 4, 5, 0] rfl)
                            exact k175 x1 x2 x3 x4 x5 r14 y15 y16 (σ 16 (Int32.toNatClampNeg y16)) y16 σ h _ _ hW _ (lv_sub hl [3, 4, 5, 6, 7, 8, 2, 1, 0] rfl)
                          · rw [if_neg c17] at h
                            refine lv_aload_n hx hb d_MD_way_137 rfl (lv_at hl 3 rfl) ?_
                            refine gf_MD_56 C hW.1 d_MD_way_138 ?_
                            refine lv_iload hx hb d_MD_way_141 (lv_at hl 1 rfl) ?_
                            obtain ⟨hin, h⟩ := gd_some h
                            refine alR_16 C hW.1 hin d_MD_way_143 ?_
                            refine lv_iconst (v := 1) hx hb d_MD_way_144 (by decide) ?_
                            refine lv_iadd hx hb d_MD_way_145 ?_
                            refine lv_aload_n hx hb d_MD_way_146 rfl (lv_at hl 3 rfl) ?_
                            refine gf_MD_56 C hW.1 d_MD_way_147 ?_
                            refine lv_iload hx hb d_MD_way_150 (lv_at hl 0 rfl) ?_
                            obtain ⟨hin, h⟩ := gd_some h
                            refine alR_16 C hW.1 hin d_MD_way_152 ?_
                            refine lv_icmp_ge (tgt := 168) hx hb d_MD_way_153 (by decide) (fun c18 => ?_) (fun c18 => ?_)
                            · rw [if_pos c18] at h
                              refine lv_aload_n hx hb d_MD_way_168 rfl (lv_at hl 3 rfl) ?_
                              refine gf_MD_56 C hW.1 d_MD_way_169 ?_
                              refine lv_iload hx hb d_MD_way_172 (lv_at hl 0 rfl) ?_
                              obtain ⟨hin, h⟩ := gd_some h
                              refine alR_16 C hW.1 hin d_MD_way_174 ?_
                              have k175 : ∀ (x1 : Int32) (x2 : Int32) (x3 : Int32) (x4 : Int32) (x5 : Int32) (x6 : Int32) (x7 : Int32) (x8 : Int32) (s0 : Int32) (s1 : Int32) (σ : Sg) (h : C_MD_way_175 (L_MD_way_80 n80) (L_MD_way_90 (L_MD_way_80 n80) n90) x1 x2 x3 x4 x5 x6 x7 x8 s0 s1 σ = some out) (H : Heap) (locs : List Loc) (hW : WR G ad cI cZ s σ H locs) (ls : Array Slot) (hl : lv_has ls 9 [(0, .ref (ad 0)), (1, .int x1), (2, .int x2), (3, .int x3), (4, .int x4), (5, .int x5), (6, .int x6), (7, .int x7), (8, .int x8)]), W p l e (headSpec wl_MD_way ({ frames := 2, cells := 0, slots := 0, locals := 63 } : Room)).room s m (([.ref (ad 0), .int a1, .int a2] : List Value).toArray) below meth c H locs 0 0 (MQ below (QRi G ad cI cZ out) (([.ref (ad 0), .int a1, .int a2] : List Value).toArray) s 0 0 (AR ad)) (F0 m 175 ls [.int s0, .int s1, .ref (ad 16)]) := by
                                intro x1 x2 x3 x4 x5 x6 x7 x8 s0 s1 σ h H locs hW ls hl
                                unfold C_MD_way_175 at h
                                obtain ⟨hin, h⟩ := gd_some h
                                refine asR_16 C hD hW hin d_MD_way_175 (fun H locs hW => ?_)
                                obtain ⟨σ25, e_σ25, h⟩ := lt1_some h
                                rw [← e_σ25] at hW
                                refine lv_aload_n hx hb d_MD_way_176 rfl (lv_at hl 0 rfl) ?_
                                refine gf_MD_56 C hW.1 d_MD_way_177 ?_
                                refine lv_iload hx hb d_MD_way_180 (lv_at hl 7 rfl) ?_
                                refine lv_iload hx hb d_MD_way_182 (lv_at hl 6 rfl) ?_
                                refine lv_if_eq (tgt := 218) hx hb d_MD_way_184 (by decide) (fun c26 => ?_) (fun c26 => ?_)
                                · rw [if_pos c26] at h
                                  refine lv_aload_n hx hb d_MD_way_218 rfl (lv_at hl 0 rfl) ?_
                                  refine gf_MD_56 C hW.1 d_MD_way_219 ?_
                                  refine lv_iload hx hb d_MD_way_222 (lv_at hl 7 rfl) ?_
                                  obtain ⟨hin, h⟩ := gd_some h
                                  refine alR_16 C hW.1 hin d_MD_way_224 ?_
                                  obtain ⟨hin, h⟩ := gd_some h
                                  refine asR_16 C hD hW hin d_MD_way_225 (fun H locs hW => ?_)
                                  obtain ⟨σ30, e_σ30, h⟩ := lt1_some h
                                  rw [← e_σ30] at hW
                                  refine lv_iinc (v := x5 + 1) (lv' := [(5, .int (x5 + 1)), (0, .ref (ad 0)), (1, .int x1), (2, .int x2), (3, .int x3), (4, .int x4), (6, .int x6), (7, .int x7), (8, .int x8)]) hx hb d_MD_way_226 hl (k := 5) rfl rfl (by decide) rfl (fun ls hl => ?_)
                                  refine lv_goto (tgt := 90) hx hb d_MD_way_229 (by decide) ?_
                                  exact ih90 x1 x2 x3 x4 (x5 + 1) σ30 h _ _ hW _ (lv_sub hl [1, 2, 3, 4, 5, 0] rfl)
                                · rw [if_neg c26] at h
                                  refine lv_aload_n hx hb d_MD_way_187 rfl (lv_at hl 0 rfl) ?_
                                  refine gf_MD_56 C hW.1 d_MD_way_188 ?_
                                  refine lv_iload hx hb d_MD_way_191 (lv_at hl 8 rfl) ?_
                                  obtain ⟨hin, h⟩ := gd_some h
                                  refine alR_16 C hW.1 hin d_MD_way_193 ?_
                                  refine lv_iconst (v := 1) hx hb d_MD_way_194 (by decide) ?_
                                  refine lv_iadd hx hb d_MD_way_195 ?_
                                  refine lv_aload_n hx hb d_MD_way_196 rfl (lv_at hl 0 rfl) ?_
                                  refine gf_MD_56 C hW.1 d_MD_way_197 ?_
                                  refine lv_iload hx hb d_MD_way_200 (lv_at hl 7 rfl) ?_
                                  obtain ⟨hin, h⟩ := gd_some h
                                  refine alR_16 C hW.1 hin d_MD_way_202 ?_
                                  refine lv_icmp_ge (tgt := 218) hx hb d_MD_way_203 (by decide) (fun c27 => ?_) (fun c27 => ?_)
                                  · rw [if_pos c27] at h
                                    refine lv_aload_n hx hb d_MD_way_218 rfl (lv_at hl 0 rfl) ?_
                                    refine gf_MD_56 C hW.1 d_MD_way_219 ?_
                                    refine lv_iload hx hb d_MD_way_222 (lv_at hl 7 rfl) ?_
                                    obtain ⟨hin, h⟩ := gd_some h
                                    refine alR_16 C hW.1 hin d_MD_way_224 ?_
                                    obtain ⟨hin, h⟩ := gd_some h
                                    refine asR_16 C hD hW hin d_MD_way_225 (fun H locs hW => ?_)
                                    obtain ⟨σ29, e_σ29, h⟩ := lt1_some h
                                    rw [← e_σ29] at hW
                                    refine lv_iinc (v := x5 + 1) (lv' := [(5, .int (x5 + 1)), (0, .ref (ad 0)), (1, .int x1), (2, .int x2), (3, .int x3), (4, .int x4), (6, .int x6), (7, .int x7), (8, .int x8)]) hx hb d_MD_way_226 hl (k := 5) rfl rfl (by decide) rfl (fun ls hl => ?_)
                                    refine lv_goto (tgt := 90) hx hb d_MD_way_229 (by decide) ?_
                                    exact ih90 x1 x2 x3 x4 (x5 + 1) σ29 h _ _ hW _ (lv_sub hl [1, 2, 3, 4, 5, 0] rfl)
                                  · rw [if_neg c27] at h
                                    refine lv_aload_n hx hb d_MD_way_206 rfl (lv_at hl 0 rfl) ?_
                                    refine gf_MD_56 C hW.1 d_MD_way_207 ?_
                                    refine lv_iload hx hb d_MD_way_210 (lv_at hl 8 rfl) ?_
                                    obtain ⟨hin, h⟩ := gd_some h
                                    refine alR_16 C hW.1 hin d_MD_way_212 ?_
                                    refine lv_iconst (v := 1) hx hb d_MD_way_213 (by decide) ?_
                                    refine lv_iadd hx hb d_MD_way_214 ?_
                                    refine lv_goto (tgt := 225) hx hb d_MD_way_215 (by decide) ?_
                                    obtain ⟨hin, h⟩ := gd_some h
                                    refine asR_16 C hD hW hin d_MD_way_225 (fun H locs hW => ?_)
                                    obtain ⟨σ28, e_σ28, h⟩ := lt1_some h
                                    rw [← e_σ28] at hW
                                    refine lv_iinc (v := x5 + 1) (lv' := [(5, .int (x5 + 1)), (0, .ref (ad 0)), (1, .int x1), (2, .int x2), (3, .int x3), (4, .int x4), (6, .int x6), (7, .int x7), (8, .int x8)]) hx hb d_MD_way_226 hl (k := 5) rfl rfl (by decide) rfl (fun ls hl => ?_)
                                    refine lv_goto (tgt := 90) hx hb d_MD_way_229 (by decide) ?_
                                    exact ih90 x1 x2 x3 x4 (x5 + 1) σ28 h _ _ hW _ (lv_sub hl [1, 2, 3, 4, 5, 0] rfl)
                              exact k175 x1 x2 x3 x4 x5 r14 y15 y16 (σ 16 (Int32.toNatClampNeg y16)) y16 σ h _ _ hW _ (lv_sub hl [3, 4, 5, 6, 7, 8, 2, 1, 0] rfl)
                            · rw [if_neg c18] at h
                              refine lv_aload_n hx hb d_MD_way_156 rfl (lv_at hl 3 rfl) ?_
                              refine gf_MD_56 C hW.1 d_MD_way_157 ?_
                              refine lv_iload hx hb d_MD_way_160 (lv_at hl 1 rfl) ?_
                              obtain ⟨hin, h⟩ := gd_some h
                              refine alR_16 C hW.1 hin d_MD_way_162 ?_
                              refine lv_iconst (v := 1) hx hb d_MD_way_163 (by decide) ?_
                              refine lv_iadd hx hb d_MD_way_164 ?_
                              refine lv_goto (tgt := 175) hx hb d_MD_way_165 (by decide) ?_
                              have k175 : ∀ (x1 : Int32) (x2 : Int32) (x3 : Int32) (x4 : Int32) (x5 : Int32) (x6 : Int32) (x7 : Int32) (x8 : Int32) (s0 : Int32) (s1 : Int32) (σ : Sg) (h : C_MD_way_175 (L_MD_way_80 n80) (L_MD_way_90 (L_MD_way_80 n80) n90) x1 x2 x3 x4 x5 x6 x7 x8 s0 s1 σ = some out) (H : Heap) (locs : List Loc) (hW : WR G ad cI cZ s σ H locs) (ls : Array Slot) (hl : lv_has ls 9 [(0, .ref (ad 0)), (1, .int x1), (2, .int x2), (3, .int x3), (4, .int x4), (5, .int x5), (6, .int x6), (7, .int x7), (8, .int x8)]), W p l e (headSpec wl_MD_way ({ frames := 2, cells := 0, slots := 0, locals := 63 } : Room)).room s m (([.ref (ad 0), .int a1, .int a2] : List Value).toArray) below meth c H locs 0 0 (MQ below (QRi G ad cI cZ out) (([.ref (ad 0), .int a1, .int a2] : List Value).toArray) s 0 0 (AR ad)) (F0 m 175 ls [.int s0, .int s1, .ref (ad 16)]) := by
                                intro x1 x2 x3 x4 x5 x6 x7 x8 s0 s1 σ h H locs hW ls hl
                                unfold C_MD_way_175 at h
                                obtain ⟨hin, h⟩ := gd_some h
                                refine asR_16 C hD hW hin d_MD_way_175 (fun H locs hW => ?_)
                                obtain ⟨σ19, e_σ19, h⟩ := lt1_some h
                                rw [← e_σ19] at hW
                                refine lv_aload_n hx hb d_MD_way_176 rfl (lv_at hl 0 rfl) ?_
                                refine gf_MD_56 C hW.1 d_MD_way_177 ?_
                                refine lv_iload hx hb d_MD_way_180 (lv_at hl 7 rfl) ?_
                                refine lv_iload hx hb d_MD_way_182 (lv_at hl 6 rfl) ?_
                                refine lv_if_eq (tgt := 218) hx hb d_MD_way_184 (by decide) (fun c20 => ?_) (fun c20 => ?_)
                                · rw [if_pos c20] at h
                                  refine lv_aload_n hx hb d_MD_way_218 rfl (lv_at hl 0 rfl) ?_
                                  refine gf_MD_56 C hW.1 d_MD_way_219 ?_
                                  refine lv_iload hx hb d_MD_way_222 (lv_at hl 7 rfl) ?_
                                  obtain ⟨hin, h⟩ := gd_some h
                                  refine alR_16 C hW.1 hin d_MD_way_224 ?_
                                  obtain ⟨hin, h⟩ := gd_some h
                                  refine asR_16 C hD hW hin d_MD_way_225 (fun H locs hW => ?_)
                                  obtain ⟨σ24, e_σ24, h⟩ := lt1_some h
                                  rw [← e_σ24] at hW
                                  refine lv_iinc (v := x5 + 1) (lv' := [(5, .int (x5 + 1)), (0, .ref (ad 0)), (1, .int x1), (2, .int x2), (3, .int x3), (4, .int x4), (6, .int x6), (7, .int x7), (8, .int x8)]) hx hb d_MD_way_226 hl (k := 5) rfl rfl (by decide) rfl (fun ls hl => ?_)
                                  refine lv_goto (tgt := 90) hx hb d_MD_way_229 (by decide) ?_
                                  exact ih90 x1 x2 x3 x4 (x5 + 1) σ24 h _ _ hW _ (lv_sub hl [1, 2, 3, 4, 5, 0] rfl)
                                · rw [if_neg c20] at h
                                  refine lv_aload_n hx hb d_MD_way_187 rfl (lv_at hl 0 rfl) ?_
                                  refine gf_MD_56 C hW.1 d_MD_way_188 ?_
                                  refine lv_iload hx hb d_MD_way_191 (lv_at hl 8 rfl) ?_
                                  obtain ⟨hin, h⟩ := gd_some h
                                  refine alR_16 C hW.1 hin d_MD_way_193 ?_
                                  refine lv_iconst (v := 1) hx hb d_MD_way_194 (by decide) ?_
                                  refine lv_iadd hx hb d_MD_way_195 ?_
                                  refine lv_aload_n hx hb d_MD_way_196 rfl (lv_at hl 0 rfl) ?_
                                  refine gf_MD_56 C hW.1 d_MD_way_197 ?_
                                  refine lv_iload hx hb d_MD_way_200 (lv_at hl 7 rfl) ?_
                                  obtain ⟨hin, h⟩ := gd_some h
                                  refine alR_16 C hW.1 hin d_MD_way_202 ?_
                                  refine lv_icmp_ge (tgt := 218) hx hb d_MD_way_203 (by decide) (fun c21 => ?_) (fun c21 => ?_)
                                  · rw [if_pos c21] at h
                                    refine lv_aload_n hx hb d_MD_way_218 rfl (lv_at hl 0 rfl) ?_
                                    refine gf_MD_56 C hW.1 d_MD_way_219 ?_
                                    refine lv_iload hx hb d_MD_way_222 (lv_at hl 7 rfl) ?_
                                    obtain ⟨hin, h⟩ := gd_some h
                                    refine alR_16 C hW.1 hin d_MD_way_224 ?_
                                    obtain ⟨hin, h⟩ := gd_some h
                                    refine asR_16 C hD hW hin d_MD_way_225 (fun H locs hW => ?_)
                                    obtain ⟨σ23, e_σ23, h⟩ := lt1_some h
                                    rw [← e_σ23] at hW
                                    refine lv_iinc (v := x5 + 1) (lv' := [(5, .int (x5 + 1)), (0, .ref (ad 0)), (1, .int x1), (2, .int x2), (3, .int x3), (4, .int x4), (6, .int x6), (7, .int x7), (8, .int x8)]) hx hb d_MD_way_226 hl (k := 5) rfl rfl (by decide) rfl (fun ls hl => ?_)
                                    refine lv_goto (tgt := 90) hx hb d_MD_way_229 (by decide) ?_
                                    exact ih90 x1 x2 x3 x4 (x5 + 1) σ23 h _ _ hW _ (lv_sub hl [1, 2, 3, 4, 5, 0] rfl)
                                  · rw [if_neg c21] at h
                                    refine lv_aload_n hx hb d_MD_way_206 rfl (lv_at hl 0 rfl) ?_
                                    refine gf_MD_56 C hW.1 d_MD_way_207 ?_
                                    refine lv_iload hx hb d_MD_way_210 (lv_at hl 8 rfl) ?_
                                    obtain ⟨hin, h⟩ := gd_some h
                                    refine alR_16 C hW.1 hin d_MD_way_212 ?_
                                    refine lv_iconst (v := 1) hx hb d_MD_way_213 (by decide) ?_
                                    refine lv_iadd hx hb d_MD_way_214 ?_
                                    refine lv_goto (tgt := 225) hx hb d_MD_way_215 (by decide) ?_
                                    obtain ⟨hin, h⟩ := gd_some h
                                    refine asR_16 C hD hW hin d_MD_way_225 (fun H locs hW => ?_)
                                    obtain ⟨σ22, e_σ22, h⟩ := lt1_some h
                                    rw [← e_σ22] at hW
                                    refine lv_iinc (v := x5 + 1) (lv' := [(5, .int (x5 + 1)), (0, .ref (ad 0)), (1, .int x1), (2, .int x2), (3, .int x3), (4, .int x4), (6, .int x6), (7, .int x7), (8, .int x8)]) hx hb d_MD_way_226 hl (k := 5) rfl rfl (by decide) rfl (fun ls hl => ?_)
                                    refine lv_goto (tgt := 90) hx hb d_MD_way_229 (by decide) ?_
                                    exact ih90 x1 x2 x3 x4 (x5 + 1) σ22 h _ _ hW _ (lv_sub hl [1, 2, 3, 4, 5, 0] rfl)
                              exact k175 x1 x2 x3 x4 x5 r14 y15 y16 ((σ 16 (Int32.toNatClampNeg y15)) + 1) y16 σ h _ _ hW _ (lv_sub hl [3, 4, 5, 6, 7, 8, 2, 1, 0] rfl)
                    exact k90 _ x1 x2 x3 x4 0 σ h _ _ hW _ (lv_sub hl [1, 2, 3, 4, 5, 0] rfl)
              exact k80 _ x1 x2 x3 0 σ h _ _ hW _ (lv_sub hl [1, 2, 3, 4, 0] rfl)
            · rw [if_neg c8] at h
              refine lv_aload_n hx hb d_MD_way_52 rfl (lv_at hl 0 rfl) ?_
              refine gf_MD_56 C hW.1 d_MD_way_53 ?_
              refine lv_iload hx hb d_MD_way_56 (lv_at hl 4 rfl) ?_
              refine lv_iload hx hb d_MD_way_58 (lv_at hl 4 rfl) ?_
              refine lv_iload_n hx hb d_MD_way_60 rfl (lv_at hl 3 rfl) ?_
              refine lv_icmp_ne (tgt := 68) hx hb d_MD_way_61 (by decide) (fun c9 => ?_) (fun c9 => ?_)
              · rw [if_neg c9] at h
                refine lv_bipush (v := 99) hx hb d_MD_way_68 (by decide) ?_
                obtain ⟨hin, h⟩ := gd_some h
                refine asR_16 C hD hW hin d_MD_way_70 (fun H locs hW => ?_)
                obtain ⟨σ11, e_σ11, h⟩ := lt1_some h
                rw [← e_σ11] at hW
                refine lv_iinc (v := x4 + 1) (lv' := [(4, .int (x4 + 1)), (0, .ref (ad 0)), (1, .int x1), (2, .int x2), (3, .int x3)]) hx hb d_MD_way_71 hl (k := 4) rfl rfl (by decide) rfl (fun ls hl => ?_)
                refine lv_goto (tgt := 45) hx hb d_MD_way_74 (by decide) ?_
                exact ih45 x1 x2 x3 (x4 + 1) σ11 h _ _ hW _ (lv_sub hl [1, 2, 3, 4, 0] rfl)
              · rw [if_pos c9] at h
                refine lv_iconst (v := 0) hx hb d_MD_way_64 (by decide) ?_
                refine lv_goto (tgt := 70) hx hb d_MD_way_65 (by decide) ?_
                obtain ⟨hin, h⟩ := gd_some h
                refine asR_16 C hD hW hin d_MD_way_70 (fun H locs hW => ?_)
                obtain ⟨σ10, e_σ10, h⟩ := lt1_some h
                rw [← e_σ10] at hW
                refine lv_iinc (v := x4 + 1) (lv' := [(4, .int (x4 + 1)), (0, .ref (ad 0)), (1, .int x1), (2, .int x2), (3, .int x3)]) hx hb d_MD_way_71 hl (k := 4) rfl rfl (by decide) rfl (fun ls hl => ?_)
                refine lv_goto (tgt := 45) hx hb d_MD_way_74 (by decide) ?_
                exact ih45 x1 x2 x3 (x4 + 1) σ10 h _ _ hW _ (lv_sub hl [1, 2, 3, 4, 0] rfl)
        exact k45 _ a1 a2 r7 0 r5.2 h _ _ hW _ (lv_sub hl [2, 3, 4, 1, 0] rfl)
      · rw [if_pos c6] at h
        refine lv_iconst (v := 0) hx hb d_MD_way_30 (by decide) ?_
        exact W.iret hx hb hr (fun t ht _ => qr_i h ht hW) hW.2.2.2 d_MD_way_31
