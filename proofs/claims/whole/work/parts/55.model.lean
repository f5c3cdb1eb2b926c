abbrev wl_MD_isSize : List Cond := .code ⟨"PlaceMovesModel", "isSize", "(I)Z"⟩ prog_9_method_9_code 1 (some FieldType.boolean) :: WG
set_option maxHeartbeats 4000000 in
set_option maxRecDepth 100000 in
theorem c_MD_isSize (l : Launch) (G : va_G) (ad : Nat → Nat) (cI cZ : ClassId) (σ : Sg) (a0 : Int32) (out : Int32) (h : f_MD_isSize σ a0 = some out) : Met l ⟨"PlaceMovesModel", "isSize", "(I)Z"⟩ wl_MD_isSize ({ frames := 0, cells := 0, slots := 0, locals := 0 } : Room) (PcR G ad cI cZ σ [.int a0]) (vp_Si (fun r => r = out)) 0 0 (fun _ => False) := by
  refine Met.ofW (cc := prog_9_method_9_code) (maxL := 1) (ret := (some FieldType.boolean)) (by decide) rfl ?_
  intro p e s m args below meth c s₁ B hml hv
  obtain ⟨rfl, hP, hK⟩ := hv
  have hx := B.exec
  have hb := B.bytes
  have hr := B.returns
  have hts0 := atoms_spec (ws := wl_MD_isSize) B.pre
  have hts : ∀ w ∈ WG, w.before _ s = true := fun w hw => hts0 w (List.mem_cons_of_mem _ hw)
  have hown : s.vm.findClass "PlaceMovesModel" = some m.cls := findClass_of_methodNamed B.named
  have hlocks := B.notSynchronized
  have C : CX "PlaceMovesModel" prog_9_method_9_code p s m _ c G cI cZ := ⟨hx, hb, hown, hts, hK⟩
  have hl := lv_entry ([.int a0]) (n := 1) (Nat.le_of_ble_eq_true rfl)
  rw [lg_entry_eq]
  generalize (lg_sl ([.int a0]) ++ List.replicate (1 - (lg_sl ([.int a0])).length) Slot.unset).toArray = ls at hl ⊢
  have hl : lv_has ls 1 [(0, .int a0)] := hl
  unfold f_MD_isSize at h
  refine lv_iload_n hx hb d_MD_isSize_0 rfl (lv_at hl 0 rfl) ?_
  refine lv_iconst (v := 1) hx hb d_MD_isSize_1 (by decide) ?_
  refine lv_icmp_lt (tgt := 16) hx hb d_MD_isSize_2 (by decide) (fun c1 => ?_) (fun c1 => ?_)
  · rw [if_pos c1] at h
    refine lv_iconst (v := 0) hx hb d_MD_isSize_16 (by decide) ?_
    exact W.zret hx hb hr rfl (fun t ht _ => ⟨_, rfl, Option.some.inj h, ht⟩) (fun _ hq => nomatch hq) d_MD_isSize_17
  · rw [if_neg c1] at h
    refine lv_iload_n hx hb d_MD_isSize_5 rfl (lv_at hl 0 rfl) ?_
    refine lv_sipush (v := 10000) hx hb d_MD_isSize_6 (by decide) ?_
    refine lv_icmp_gt (tgt := 16) hx hb d_MD_isSize_9 (by decide) (fun c2 => ?_) (fun c2 => ?_)
    · rw [if_pos c2] at h
      refine lv_iconst (v := 0) hx hb d_MD_isSize_16 (by decide) ?_
      exact W.zret hx hb hr rfl (fun t ht _ => ⟨_, rfl, Option.some.inj h, ht⟩) (fun _ hq => nomatch hq) d_MD_isSize_17
    · rw [if_neg c2] at h
      refine lv_iconst (v := 1) hx hb d_MD_isSize_12 (by decide) ?_
      refine lv_goto (tgt := 17) hx hb d_MD_isSize_13 (by decide) ?_
      exact W.zret hx hb hr rfl (fun t ht _ => ⟨_, rfl, Option.some.inj h, ht⟩) (fun _ hq => nomatch hq) d_MD_isSize_17
section RC
variable {p : Program} {l : Launch} {e : Env} {R : Room} {s : State} {m : MethodId} {args : Array Value} {below : List Frame} {meth : Method} {c : Code} {H : Heap} {locs : List Loc} {cells slots : Nat} {Q : State → Prop}
variable {cc : ByteArray} {pc : Nat} {ls : Array Slot} {rest : List Value} {G : va_G} {ad : Nat → Nat} {cI cZ : ClassId} {σ : Sg} {own : String}
theorem cl_MD_106 (C : CX "PlaceMovesModel" cc p s m args c G cI cZ) (hml : c.maxLocals = ls.size) (hP : va_P G clX (wR ad cI cZ σ) H) {x0 : Int32} {r : Int32} (hg : f_MD_isSize σ x0 = some r) (hR : 0 + 1 ≤ R.frames ∧ 8 + (1 + 11) + 0 ≤ R.locals) (hrest : (rest.map fun v => v.category).sum ≤ 8) (hd : decode cc pc = .ok (.invokestatic 106, 3)) (hcs : cells + 0 ≤ R.cells ∧ slots + 0 ≤ R.slots) (kk : W p l e R s m args below meth c H locs cells slots Q (F0 m (pc + 3) ls (.int r :: rest))) : W p l e R s m args below meth c H locs cells slots Q (F0 m pc ls (.int x0 :: rest)) :=
  vp_callSi (W.runS (As := [.int x0]) (rest := rest) ⟨C.1, C.2.1, hml, C.2.2.1, C.2.2.2.1⟩ (c_MD_isSize l G ad cI cZ σ x0 r hg) (va_cwS 1 C.2.2.2.1 (wg_S w_721 w_722 w_8 w_723) rfl rfl rfl (by decide +kernel) hR) ⟨PcR.blind, fun U hU hW => ⟨rfl, by rw [hU]; exact hP, C.2.2.2.2.warm hW⟩⟩ rfl rfl rfl rfl (lv_room hrest) hd hcs) (fun r' e => by subst e; exact kk)
end RC
abbrev wl_MD_object : List Cond := .code ⟨"PlaceMovesModel", "object", "(IIII)I"⟩ prog_9_method_10_code 5 (some FieldType.int) :: WG
set_option maxHeartbeats 4000000 in
set_option maxRecDepth 100000 in
theorem c_MD_object (l : Launch) (G : va_G) (ad : Nat → Nat) (cI cZ : ClassId) (hD : DR ad) (σ : Sg) (a1 : Int32) (a2 : Int32) (a3 : Int32) (a4 : Int32) (out : Int32 × Sg) (h : f_MD_object σ a1 a2 a3 a4 = some out) : Met l ⟨"PlaceMovesModel", "object", "(IIII)I"⟩ wl_MD_object ({ frames := 1, cells := 0, slots := 0, locals := 22 } : Room) (PcR G ad cI cZ σ [.ref (ad 0), .int a1, .int a2, .int a3, .int a4]) (QRi G ad cI cZ out) 0 0 (AR ad) := by
  refine Met.ofW (cc := prog_9_method_10_code) (maxL := 5) (ret := (some FieldType.int)) (by decide) rfl ?_
  intro p e s m args below meth c s₁ B hml hv
  obtain ⟨rfl, hP, hK⟩ := hv
  have hx := B.exec
  have hb := B.bytes
  have hr := B.returns
  have hts0 := atoms_spec (ws := wl_MD_object) B.pre
  have hts : ∀ w ∈ WG, w.before _ s = true := fun w hw => hts0 w (List.mem_cons_of_mem _ hw)
  have hown : s.vm.findClass "PlaceMovesModel" = some m.cls := findClass_of_methodNamed B.named
  have hlocks := B.notSynchronized
  have C : CX "PlaceMovesModel" prog_9_method_10_code p s m _ c G cI cZ := ⟨hx, hb, hown, hts, hK⟩
  have hl := lv_entry ([.ref (ad 0), .int a1, .int a2, .int a3, .int a4]) (n := 5) (Nat.le_of_ble_eq_true rfl)
  rw [lg_entry_eq]
  generalize (lg_sl ([.ref (ad 0), .int a1, .int a2, .int a3, .int a4]) ++ List.replicate (5 - (lg_sl ([.ref (ad 0), .int a1, .int a2, .int a3, .int a4])).length) Slot.unset).toArray = ls at hl ⊢
  have hl : lv_has ls 5 [(0, .ref (ad 0)), (1, .int a1), (2, .int a2), (3, .int a3), (4, .int a4)] := hl
  unfold f_MD_object at h
  have hW : WR G ad cI cZ s σ s.heap [] := ⟨hP, va_S.rf⟩
  refine lv_aload_n hx hb d_MD_object_0 rfl (lv_at hl 0 rfl) ?_
  refine lv_iload_n hx hb d_MD_object_1 rfl (lv_at hl 1 rfl) ?_
  obtain ⟨r1, g_r1, h⟩ := ob_some h
  refine cl_MD_106 (rest := [.ref (ad 0)]) C (hml.trans hl.1.symm) hW.1 g_r1 ⟨Nat.le_of_ble_eq_true rfl, Nat.le_of_ble_eq_true rfl⟩ (Nat.le_of_ble_eq_true rfl) d_MD_object_2 ⟨Nat.zero_le _, Nat.zero_le _⟩ ?_
  refine lv_if_eq (tgt := 33) hx hb d_MD_object_5 (by decide) (fun c2 => ?_) (fun c2 => ?_)
  · rw [if_pos c2] at h
    refine lv_iconst (v := 1) hx hb d_MD_object_33 (by decide) ?_
    refine lv_goto (tgt := 51) hx hb d_MD_object_34 (by decide) ?_
    have k51 : ∀ (x1 : Int32) (x2 : Int32) (x3 : Int32) (x4 : Int32) (s0 : Int32) (σ : Sg) (h : C_MD_object_51 x1 x2 x3 x4 s0 σ = some out) (H : Heap) (locs : List Loc) (hW : WR G ad cI cZ s σ H locs) (ls : Array Slot) (hl : lv_has ls 5 [(0, .ref (ad 0)), (1, .int x1), (2, .int x2), (3, .int x3), (4, .int x4)]), W p l e (headSpec wl_MD_object ({ frames := 1, cells := 0, slots := 0, locals := 22 } : Room)).room s m (([.ref (ad 0), .int a1, .int a2, .int a3, .int a4] : List Value).toArray) below meth c H locs 0 0 (MQ below (QRi G ad cI cZ out) (([.ref (ad 0), .int a1, .int a2, .int a3, .int a4] : List Value).toArray) s 0 0 (AR ad)) (F0 m 51 ls [.int s0, .ref (ad 0)]) := by
      intro x1 x2 x3 x4 s0 σ h H locs hW ls hl
      unfold C_MD_object_51 at h
      refine pf_MD_84 C hD hW d_MD_object_51 (fun H locs hW => ?_)
      obtain ⟨σ45, e_σ45, h⟩ := lt1_some h
      rw [← e_σ45] at hW
      refine lv_aload_n hx hb d_MD_object_54 rfl (lv_at hl 0 rfl) ?_
      refine gf_MD_84 C hW.1 d_MD_object_55 ?_
      refine lv_if_eq (tgt := 63) hx hb d_MD_object_58 (by decide) (fun c46 => ?_) (fun c46 => ?_)
      · rw [if_pos c46] at h
        refine lv_aload_n hx hb d_MD_object_63 rfl (lv_at hl 0 rfl) ?_
        refine gf_MD_16 C hW.1 d_MD_object_64 ?_
        refine lv_iconst (v := 3) hx hb d_MD_object_67 (by decide) ?_
        refine lv_aload_n hx hb d_MD_object_68 rfl (lv_at hl 0 rfl) ?_
        refine gf_MD_90 C hW.1 d_MD_object_69 ?_
        refine lv_imul hx hb d_MD_object_72 ?_
        refine lv_iload_n hx hb d_MD_object_73 rfl (lv_at hl 1 rfl) ?_
        obtain ⟨hin, h⟩ := gd_some h
        refine asR_3 C hD hW hin d_MD_object_74 (fun H locs hW => ?_)
        obtain ⟨σ47, e_σ47, h⟩ := lt1_some h
        rw [← e_σ47] at hW
        refine lv_aload_n hx hb d_MD_object_75 rfl (lv_at hl 0 rfl) ?_
        refine gf_MD_16 C hW.1 d_MD_object_76 ?_
        refine lv_iconst (v := 3) hx hb d_MD_object_79 (by decide) ?_
        refine lv_aload_n hx hb d_MD_object_80 rfl (lv_at hl 0 rfl) ?_
        refine gf_MD_90 C hW.1 d_MD_object_81 ?_
        refine lv_imul hx hb d_MD_object_84 ?_
        refine lv_iconst (v := 1) hx hb d_MD_object_85 (by decide) ?_
        refine lv_iadd hx hb d_MD_object_86 ?_
        refine lv_iload_n hx hb d_MD_object_87 rfl (lv_at hl 2 rfl) ?_
        obtain ⟨hin, h⟩ := gd_some h
        refine asR_3 C hD hW hin d_MD_object_88 (fun H locs hW => ?_)
        obtain ⟨σ48, e_σ48, h⟩ := lt1_some h
        rw [← e_σ48] at hW
        refine lv_aload_n hx hb d_MD_object_89 rfl (lv_at hl 0 rfl) ?_
        refine gf_MD_16 C hW.1 d_MD_object_90 ?_
        refine lv_iconst (v := 3) hx hb d_MD_object_93 (by decide) ?_
        refine lv_aload_n hx hb d_MD_object_94 rfl (lv_at hl 0 rfl) ?_
        refine gf_MD_90 C hW.1 d_MD_object_95 ?_
        refine lv_imul hx hb d_MD_object_98 ?_
        refine lv_iconst (v := 2) hx hb d_MD_object_99 (by decide) ?_
        refine lv_iadd hx hb d_MD_object_100 ?_
        refine lv_iload_n hx hb d_MD_object_101 rfl (lv_at hl 3 rfl) ?_
        obtain ⟨hin, h⟩ := gd_some h
        refine asR_3 C hD hW hin d_MD_object_102 (fun H locs hW => ?_)
        obtain ⟨σ49, e_σ49, h⟩ := lt1_some h
        rw [← e_σ49] at hW
        refine lv_aload_n hx hb d_MD_object_103 rfl (lv_at hl 0 rfl) ?_
        refine gf_MD_19 C hW.1 d_MD_object_104 ?_
        refine lv_aload_n hx hb d_MD_object_107 rfl (lv_at hl 0 rfl) ?_
        refine gf_MD_90 C hW.1 d_MD_object_108 ?_
        refine lv_iload hx hb d_MD_object_111 (lv_at hl 4 rfl) ?_
        obtain ⟨hin, h⟩ := gd_some h
        refine asR_4 C hD hW hin d_MD_object_113 (fun H locs hW => ?_)
        obtain ⟨σ50, e_σ50, h⟩ := lt1_some h
        rw [← e_σ50] at hW
        refine lv_aload_n hx hb d_MD_object_114 rfl (lv_at hl 0 rfl) ?_
        refine lv_dup hx hb d_MD_object_115 rfl ?_
        refine gf_MD_90 C hW.1 d_MD_object_116 ?_
        refine lv_iconst (v := 1) hx hb d_MD_object_119 (by decide) ?_
        refine lv_iadd hx hb d_MD_object_120 ?_
        refine pf_MD_90 C hD hW d_MD_object_121 (fun H locs hW => ?_)
        obtain ⟨σ51, e_σ51, h⟩ := lt1_some h
        rw [← e_σ51] at hW
        refine lv_aload_n hx hb d_MD_object_124 rfl (lv_at hl 0 rfl) ?_
        refine gf_MD_90 C hW.1 d_MD_object_125 ?_
        refine lv_iconst (v := 1) hx hb d_MD_object_128 (by decide) ?_
        refine lv_isub hx hb d_MD_object_129 ?_
        exact W.iret hx hb hr (fun t ht _ => qr_i h ht hW) hW.2.2.2 d_MD_object_130
      · rw [if_neg c46] at h
        refine lv_iconst (v := 0) hx hb d_MD_object_61 (by decide) ?_
        exact W.iret hx hb hr (fun t ht _ => qr_i h ht hW) hW.2.2.2 d_MD_object_62
    exact k51 a1 a2 a3 a4 1 σ h _ _ hW _ (lv_sub hl [0, 1, 2, 3, 4] rfl)
  · rw [if_neg c2] at h
    refine lv_iload_n hx hb d_MD_object_8 rfl (lv_at hl 2 rfl) ?_
    obtain ⟨r3, g_r3, h⟩ := ob_some h
    refine cl_MD_106 (rest := [.ref (ad 0)]) C (hml.trans hl.1.symm) hW.1 g_r3 ⟨Nat.le_of_ble_eq_true rfl, Nat.le_of_ble_eq_true rfl⟩ (Nat.le_of_ble_eq_true rfl) d_MD_object_9 ⟨Nat.zero_le _, Nat.zero_le _⟩ ?_
    refine lv_if_eq (tgt := 33) hx hb d_MD_object_12 (by decide) (fun c4 => ?_) (fun c4 => ?_)
    · rw [if_pos c4] at h
      refine lv_iconst (v := 1) hx hb d_MD_object_33 (by decide) ?_
      refine lv_goto (tgt := 51) hx hb d_MD_object_34 (by decide) ?_
      have k51 : ∀ (x1 : Int32) (x2 : Int32) (x3 : Int32) (x4 : Int32) (s0 : Int32) (σ : Sg) (h : C_MD_object_51 x1 x2 x3 x4 s0 σ = some out) (H : Heap) (locs : List Loc) (hW : WR G ad cI cZ s σ H locs) (ls : Array Slot) (hl : lv_has ls 5 [(0, .ref (ad 0)), (1, .int x1), (2, .int x2), (3, .int x3), (4, .int x4)]), W p l e (headSpec wl_MD_object ({ frames := 1, cells := 0, slots := 0, locals := 22 } : Room)).room s m (([.ref (ad 0), .int a1, .int a2, .int a3, .int a4] : List Value).toArray) below meth c H locs 0 0 (MQ below (QRi G ad cI cZ out) (([.ref (ad 0), .int a1, .int a2, .int a3, .int a4] : List Value).toArray) s 0 0 (AR ad)) (F0 m 51 ls [.int s0, .ref (ad 0)]) := by
        intro x1 x2 x3 x4 s0 σ h H locs hW ls hl
        unfold C_MD_object_51 at h
        refine pf_MD_84 C hD hW d_MD_object_51 (fun H locs hW => ?_)
        obtain ⟨σ38, e_σ38, h⟩ := lt1_some h
        rw [← e_σ38] at hW
        refine lv_aload_n hx hb d_MD_object_54 rfl (lv_at hl 0 rfl) ?_
        refine gf_MD_84 C hW.1 d_MD_object_55 ?_
        refine lv_if_eq (tgt := 63) hx hb d_MD_object_58 (by decide) (fun c39 => ?_) (fun c39 => ?_)
        · rw [if_pos c39] at h
          refine lv_aload_n hx hb d_MD_object_63 rfl (lv_at hl 0 rfl) ?_
          refine gf_MD_16 C hW.1 d_MD_object_64 ?_
          refine lv_iconst (v := 3) hx hb d_MD_object_67 (by decide) ?_
          refine lv_aload_n hx hb d_MD_object_68 rfl (lv_at hl 0 rfl) ?_
          refine gf_MD_90 C hW.1 d_MD_object_69 ?_
          refine lv_imul hx hb d_MD_object_72 ?_
          refine lv_iload_n hx hb d_MD_object_73 rfl (lv_at hl 1 rfl) ?_
          obtain ⟨hin, h⟩ := gd_some h
          refine asR_3 C hD hW hin d_MD_object_74 (fun H locs hW => ?_)
          obtain ⟨σ40, e_σ40, h⟩ := lt1_some h
          rw [← e_σ40] at hW
          refine lv_aload_n hx hb d_MD_object_75 rfl (lv_at hl 0 rfl) ?_
          refine gf_MD_16 C hW.1 d_MD_object_76 ?_
          refine lv_iconst (v := 3) hx hb d_MD_object_79 (by decide) ?_
          refine lv_aload_n hx hb d_MD_object_80 rfl (lv_at hl 0 rfl) ?_
          refine gf_MD_90 C hW.1 d_MD_object_81 ?_
          refine lv_imul hx hb d_MD_object_84 ?_
          refine lv_iconst (v := 1) hx hb d_MD_object_85 (by decide) ?_
          refine lv_iadd hx hb d_MD_object_86 ?_
          refine lv_iload_n hx hb d_MD_object_87 rfl (lv_at hl 2 rfl) ?_
          obtain ⟨hin, h⟩ := gd_some h
          refine asR_3 C hD hW hin d_MD_object_88 (fun H locs hW => ?_)
          obtain ⟨σ41, e_σ41, h⟩ := lt1_some h
          rw [← e_σ41] at hW
          refine lv_aload_n hx hb d_MD_object_89 rfl (lv_at hl 0 rfl) ?_
          refine gf_MD_16 C hW.1 d_MD_object_90 ?_
          refine lv_iconst (v := 3) hx hb d_MD_object_93 (by decide) ?_
          refine lv_aload_n hx hb d_MD_object_94 rfl (lv_at hl 0 rfl) ?_
          refine gf_MD_90 C hW.1 d_MD_object_95 ?_
          refine lv_imul hx hb d_MD_object_98 ?_
          refine lv_iconst (v := 2) hx hb d_MD_object_99 (by decide) ?_
          refine lv_iadd hx hb d_MD_object_100 ?_
          refine lv_iload_n hx hb d_MD_object_101 rfl (lv_at hl 3 rfl) ?_
          obtain ⟨hin, h⟩ := gd_some h
          refine asR_3 C hD hW hin d_MD_object_102 (fun H locs hW => ?_)
          obtain ⟨σ42, e_σ42, h⟩ := lt1_some h
          rw [← e_σ42] at hW
          refine lv_aload_n hx hb d_MD_object_103 rfl (lv_at hl 0 rfl) ?_
          refine gf_MD_19 C hW.1 d_MD_object_104 ?_
          refine lv_aload_n hx hb d_MD_object_107 rfl (lv_at hl 0 rfl) ?_
          refine gf_MD_90 C hW.1 d_MD_object_108 ?_
          refine lv_iload hx hb d_MD_object_111 (lv_at hl 4 rfl) ?_
          obtain ⟨hin, h⟩ := gd_some h
          refine asR_4 C hD hW hin d_MD_object_113 (fun H locs hW => ?_)
          obtain ⟨σ43, e_σ43, h⟩ := lt1_some h
          rw [← e_σ43] at hW
          refine lv_aload_n hx hb d_MD_object_114 rfl (lv_at hl 0 rfl) ?_
          refine lv_dup hx hb d_MD_object_115 rfl ?_
          refine gf_MD_90 C hW.1 d_MD_object_116 ?_
          refine lv_iconst (v := 1) hx hb d_MD_object_119 (by decide) ?_
          refine lv_iadd hx hb d_MD_object_120 ?_
          refine pf_MD_90 C hD hW d_MD_object_121 (fun H locs hW => ?_)
          obtain ⟨σ44, e_σ44, h⟩ := lt1_some h
          rw [← e_σ44] at hW
          refine lv_aload_n hx hb d_MD_object_124 rfl (lv_at hl 0 rfl) ?_
          refine gf_MD_90 C hW.1 d_MD_object_125 ?_
          refine lv_iconst (v := 1) hx hb d_MD_object_128 (by decide) ?_
          refine lv_isub hx hb d_MD_object_129 ?_
          exact W.iret hx hb hr (fun t ht _ => qr_i h ht hW) hW.2.2.2 d_MD_object_130
        · rw [if_neg c39] at h
          refine lv_iconst (v := 0) hx hb d_MD_object_61 (by decide) ?_
          exact W.iret hx hb hr (fun t ht _ => qr_i h ht hW) hW.2.2.2 d_MD_object_62
      exact k51 a1 a2 a3 a4 1 σ h _ _ hW _ (lv_sub hl [0, 1, 2, 3, 4] rfl)
    · rw [if_neg c4] at h
      refine lv_iload_n hx hb d_MD_object_15 rfl (lv_at hl 3 rfl) ?_
      obtain ⟨r5, g_r5, h⟩ := ob_some h
      refine cl_MD_106 (rest := [.ref (ad 0)]) C (hml.trans hl.1.symm) hW.1 g_r5 ⟨Nat.le_of_ble_eq_true rfl, Nat.le_of_ble_eq_true rfl⟩ (Nat.le_of_ble_eq_true rfl) d_MD_object_16 ⟨Nat.zero_le _, Nat.zero_le _⟩ ?_
      refine lv_if_eq (tgt := 33) hx hb d_MD_object_19 (by decide) (fun c6 => ?_) (fun c6 => ?_)
      · rw [if_pos c6] at h
        refine lv_iconst (v := 1) hx hb d_MD_object_33 (by decide) ?_
        refine lv_goto (tgt := 51) hx hb d_MD_object_34 (by decide) ?_
        have k51 : ∀ (x1 : Int32) (x2 : Int32) (x3 : Int32) (x4 : Int32) (s0 : Int32) (σ : Sg) (h : C_MD_object_51 x1 x2 x3 x4 s0 σ = some out) (H : Heap) (locs : List Loc) (hW : WR G ad cI cZ s σ H locs) (ls : Array Slot) (hl : lv_has ls 5 [(0, .ref (ad 0)), (1, .int x1), (2, .int x2), (3, .int x3), (4, .int x4)]), W p l e (headSpec wl_MD_object ({ frames := 1, cells := 0, slots := 0, locals := 22 } : Room)).room s m (([.ref (ad 0), .int a1, .int a2, .int a3, .int a4] : List Value).toArray) below meth c H locs 0 0 (MQ below (QRi G ad cI cZ out) (([.ref (ad 0), .int a1, .int a2, .int a3, .int a4] : List Value).toArray) s 0 0 (AR ad)) (F0 m 51 ls [.int s0, .ref (ad 0)]) := by
          intro x1 x2 x3 x4 s0 σ h H locs hW ls hl
          unfold C_MD_object_51 at h
          refine pf_MD_84 C hD hW d_MD_object_51 (fun H locs hW => ?_)
          obtain ⟨σ31, e_σ31, h⟩ := lt1_some h
          rw [← e_σ31] at hW
          refine lv_aload_n hx hb d_MD_object_54 rfl (lv_at hl 0 rfl) ?_
          refine gf_MD_84 C hW.1 d_MD_object_55 ?_
          refine lv_if_eq (tgt := 63) hx hb d_MD_object_58 (by decide) (fun c32 => ?_) (fun c32 => ?_)
          · rw [if_pos c32] at h
            refine lv_aload_n hx hb d_MD_object_63 rfl (lv_at hl 0 rfl) ?_
            refine gf_MD_16 C hW.1 d_MD_object_64 ?_
            refine lv_iconst (v := 3) hx hb d_MD_object_67 (by decide) ?_
            refine lv_aload_n hx hb d_MD_object_68 rfl (lv_at hl 0 rfl) ?_
            refine gf_MD_90 C hW.1 d_MD_object_69 ?_
            refine lv_imul hx hb d_MD_object_72 ?_
            refine lv_iload_n hx hb d_MD_object_73 rfl (lv_at hl 1 rfl) ?_
            obtain ⟨hin, h⟩ := gd_some h
            refine asR_3 C hD hW hin d_MD_object_74 (fun H locs hW => ?_)
            obtain ⟨σ33, e_σ33, h⟩ := lt1_some h
            rw [← e_σ33] at hW
            refine lv_aload_n hx hb d_MD_object_75 rfl (lv_at hl 0 rfl) ?_
            refine gf_MD_16 C hW.1 d_MD_object_76 ?_
            refine lv_iconst (v := 3) hx hb d_MD_object_79 (by decide) ?_
            refine lv_aload_n hx hb d_MD_object_80 rfl (lv_at hl 0 rfl) ?_
            refine gf_MD_90 C hW.1 d_MD_object_81 ?_
            refine lv_imul hx hb d_MD_object_84 ?_
            refine lv_iconst (v := 1) hx hb d_MD_object_85 (by decide) ?_
            refine lv_iadd hx hb d_MD_object_86 ?_
            refine lv_iload_n hx hb d_MD_object_87 rfl (lv_at hl 2 rfl) ?_
            obtain ⟨hin, h⟩ := gd_some h
            refine asR_3 C hD hW hin d_MD_object_88 (fun H locs hW => ?_)
            obtain ⟨σ34, e_σ34, h⟩ := lt1_some h
            rw [← e_σ34] at hW
            refine lv_aload_n hx hb d_MD_object_89 rfl (lv_at hl 0 rfl) ?_
            refine gf_MD_16 C hW.1 d_MD_object_90 ?_
            refine lv_iconst (v := 3) hx hb d_MD_object_93 (by decide) ?_
            refine lv_aload_n hx hb d_MD_object_94 rfl (lv_at hl 0 rfl) ?_
            refine gf_MD_90 C hW.1 d_MD_object_95 ?_
            refine lv_imul hx hb d_MD_object_98 ?_
            refine lv_iconst (v := 2) hx hb d_MD_object_99 (by decide) ?_
            refine lv_iadd hx hb d_MD_object_100 ?_
            refine lv_iload_n hx hb d_MD_object_101 rfl (lv_at hl 3 rfl) ?_
            obtain ⟨hin, h⟩ := gd_some h
            refine asR_3 C hD hW hin d_MD_object_102 (fun H locs hW => ?_)
            obtain ⟨σ35, e_σ35, h⟩ := lt1_some h
            rw [← e_σ35] at hW
            refine lv_aload_n hx hb d_MD_object_103 rfl (lv_at hl 0 rfl) ?_
            refine gf_MD_19 C hW.1 d_MD_object_104 ?_
            refine lv_aload_n hx hb d_MD_object_107 rfl (lv_at hl 0 rfl) ?_
            refine gf_MD_90 C hW.1 d_MD_object_108 ?_
            refine lv_iload hx hb d_MD_object_111 (lv_at hl 4 rfl) ?_
            obtain ⟨hin, h⟩ := gd_some h
            refine asR_4 C hD hW hin d_MD_object_113 (fun H locs hW => ?_)
            obtain ⟨σ36, e_σ36, h⟩ := lt1_some h
            rw [← e_σ36] at hW
            refine lv_aload_n hx hb d_MD_object_114 rfl (lv_at hl 0 rfl) ?_
            refine lv_dup hx hb d_MD_object_115 rfl ?_
            refine gf_MD_90 C hW.1 d_MD_object_116 ?_
            refine lv_iconst (v := 1) hx hb d_MD_object_119 (by decide) ?_
            refine lv_iadd hx hb d_MD_object_120 ?_
            refine pf_MD_90 C hD hW d_MD_object_121 (fun H locs hW => ?_)
            obtain ⟨σ37, e_σ37, h⟩ := lt1_some h
            rw [← e_σ37] at hW
            refine lv_aload_n hx hb d_MD_object_124 rfl (lv_at hl 0 rfl) ?_
            refine gf_MD_90 C hW.1 d_MD_object_125 ?_
            refine lv_iconst (v := 1) hx hb d_MD_object_128 (by decide) ?_
            refine lv_isub hx hb d_MD_object_129 ?_
            exact W.iret hx hb hr (fun t ht _ => qr_i h ht hW) hW.2.2.2 d_MD_object_130
          · rw [if_neg c32] at h
            refine lv_iconst (v := 0) hx hb d_MD_object_61 (by decide) ?_
            exact W.iret hx hb hr (fun t ht _ => qr_i h ht hW) hW.2.2.2 d_MD_object_62
        exact k51 a1 a2 a3 a4 1 σ h _ _ hW _ (lv_sub hl [0, 1, 2, 3, 4] rfl)
      · rw [if_neg c6] at h
        refine lv_iload hx hb d_MD_object_22 (lv_at hl 4 rfl) ?_
        refine lv_iconst (v := 1) hx hb d_MD_object_24 (by decide) ?_
        refine lv_ldc (v := 1000000) hx hb hown (hts _ w_724) d_MD_object_25 ?_
        obtain ⟨r7, g_r7, h⟩ := ob_some h
        refine cl_MD_98 (rest := [.ref (ad 0)]) C (hml.trans hl.1.symm) hW.1 g_r7 ⟨Nat.le_of_ble_eq_true rfl, Nat.le_of_ble_eq_true rfl⟩ (Nat.le_of_ble_eq_true rfl) d_MD_object_27 ⟨Nat.zero_le _, Nat.zero_le _⟩ ?_
        refine lv_if_ne (tgt := 37) hx hb d_MD_object_30 (by decide) (fun c8 => ?_) (fun c8 => ?_)
        · rw [if_neg c8] at h
          refine lv_aload_n hx hb d_MD_object_37 rfl (lv_at hl 0 rfl) ?_
          refine gf_MD_90 C hW.1 d_MD_object_38 ?_
          refine lv_bipush (v := 20) hx hb d_MD_object_41 (by decide) ?_
          refine lv_icmp_ne (tgt := 50) hx hb d_MD_object_43 (by decide) (fun c16 => ?_) (fun c16 => ?_)
          · rw [if_neg c16] at h
            refine lv_iconst (v := 0) hx hb d_MD_object_50 (by decide) ?_
            have k51 : ∀ (x1 : Int32) (x2 : Int32) (x3 : Int32) (x4 : Int32) (s0 : Int32) (σ : Sg) (h : C_MD_object_51 x1 x2 x3 x4 s0 σ = some out) (H : Heap) (locs : List Loc) (hW : WR G ad cI cZ s σ H locs) (ls : Array Slot) (hl : lv_has ls 5 [(0, .ref (ad 0)), (1, .int x1), (2, .int x2), (3, .int x3), (4, .int x4)]), W p l e (headSpec wl_MD_object ({ frames := 1, cells := 0, slots := 0, locals := 22 } : Room)).room s m (([.ref (ad 0), .int a1, .int a2, .int a3, .int a4] : List Value).toArray) below meth c H locs 0 0 (MQ below (QRi G ad cI cZ out) (([.ref (ad 0), .int a1, .int a2, .int a3, .int a4] : List Value).toArray) s 0 0 (AR ad)) (F0 m 51 ls [.int s0, .ref (ad 0)]) := by
              intro x1 x2 x3 x4 s0 σ h H locs hW ls hl
              unfold C_MD_object_51 at h
              refine pf_MD_84 C hD hW d_MD_object_51 (fun H locs hW => ?_)
              obtain ⟨σ24, e_σ24, h⟩ := lt1_some h
              rw [← e_σ24] at hW
              refine lv_aload_n hx hb d_MD_object_54 rfl (lv_at hl 0 rfl) ?_
              refine gf_MD_84 C hW.1 d_MD_object_55 ?_
              refine lv_if_eq (tgt := 63) hx hb d_MD_object_58 (by decide) (fun c25 => ?_) (fun c25 => ?_)
              · rw [if_pos c25] at h
                refine lv_aload_n hx hb d_MD_object_63 rfl (lv_at hl 0 rfl) ?_
                refine gf_MD_16 C hW.1 d_MD_object_64 ?_
                refine lv_iconst (v := 3) hx hb d_MD_object_67 (by decide) ?_
                refine lv_aload_n hx hb d_MD_object_68 rfl (lv_at hl 0 rfl) ?_
                refine gf_MD_90 C hW.1 d_MD_object_69 ?_
                refine lv_imul hx hb d_MD_object_72 ?_
                refine lv_iload_n hx hb d_MD_object_73 rfl (lv_at hl 1 rfl) ?_
                obtain ⟨hin, h⟩ := gd_some h
                refine asR_3 C hD hW hin d_MD_object_74 (fun H locs hW => ?_)
                obtain ⟨σ26, e_σ26, h⟩ := lt1_some h
                rw [← e_σ26] at hW
                refine lv_aload_n hx hb d_MD_object_75 rfl (lv_at hl 0 rfl) ?_
                refine gf_MD_16 C hW.1 d_MD_object_76 ?_
                refine lv_iconst (v := 3) hx hb d_MD_object_79 (by decide) ?_
                refine lv_aload_n hx hb d_MD_object_80 rfl (lv_at hl 0 rfl) ?_
                refine gf_MD_90 C hW.1 d_MD_object_81 ?_
                refine lv_imul hx hb d_MD_object_84 ?_
                refine lv_iconst (v := 1) hx hb d_MD_object_85 (by decide) ?_
                refine lv_iadd hx hb d_MD_object_86 ?_
                refine lv_iload_n hx hb d_MD_object_87 rfl (lv_at hl 2 rfl) ?_
                obtain ⟨hin, h⟩ := gd_some h
                refine asR_3 C hD hW hin d_MD_object_88 (fun H locs hW => ?_)
                obtain ⟨σ27, e_σ27, h⟩ := lt1_some h
                rw [← e_σ27] at hW
                refine lv_aload_n hx hb d_MD_object_89 rfl (lv_at hl 0 rfl) ?_
                refine gf_MD_16 C hW.1 d_MD_object_90 ?_
                refine lv_iconst (v := 3) hx hb d_MD_object_93 (by decide) ?_
                refine lv_aload_n hx hb d_MD_object_94 rfl (lv_at hl 0 rfl) ?_
                refine gf_MD_90 C hW.1 d_MD_object_95 ?_
                refine lv_imul hx hb d_MD_object_98 ?_
                refine lv_iconst (v := 2) hx hb d_MD_object_99 (by decide) ?_
                refine lv_iadd hx hb d_MD_object_100 ?_
                refine lv_iload_n hx hb d_MD_object_101 rfl (lv_at hl 3 rfl) ?_
                obtain ⟨hin, h⟩ := gd_some h
                refine asR_3 C hD hW hin d_MD_object_102 (fun H locs hW => ?_)
                obtain ⟨σ28, e_σ28, h⟩ := lt1_some h
                rw [← e_σ28] at hW
                refine lv_aload_n hx hb d_MD_object_103 rfl (lv_at hl 0 rfl) ?_
                refine gf_MD_19 C hW.1 d_MD_object_104 ?_
                refine lv_aload_n hx hb d_MD_object_107 rfl (lv_at hl 0 rfl) ?_
                refine gf_MD_90 C hW.1 d_MD_object_108 ?_
                refine lv_iload hx hb d_MD_object_111 (lv_at hl 4 rfl) ?_
                obtain ⟨hin, h⟩ := gd_some h
                refine asR_4 C hD hW hin d_MD_object_113 (fun H locs hW => ?_)
                obtain ⟨σ29, e_σ29, h⟩ := lt1_some h
                rw [← e_σ29] at hW
                refine lv_aload_n hx hb d_MD_object_114 rfl (lv_at hl 0 rfl) ?_
                refine lv_dup hx hb d_MD_object_115 rfl ?_
                refine gf_MD_90 C hW.1 d_MD_object_116 ?_
                refine lv_iconst (v := 1) hx hb d_MD_object_119 (by decide) ?_
                refine lv_iadd hx hb d_MD_object_120 ?_
                refine pf_MD_90 C hD hW d_MD_object_121 (fun H locs hW => ?_)
                obtain ⟨σ30, e_σ30, h⟩ := lt1_some h
                rw [← e_σ30] at hW
                refine lv_aload_n hx hb d_MD_object_124 rfl (lv_at hl 0 rfl) ?_
                refine gf_MD_90 C hW.1 d_MD_object_125 ?_
                refine lv_iconst (v := 1) hx hb d_MD_object_128 (by decide) ?_
                refine lv_isub hx hb d_MD_object_129 ?_
                exact W.iret hx hb hr (fun t ht _ => qr_i h ht hW) hW.2.2.2 d_MD_object_130
              · rw [if_neg c25] at h
                refine lv_iconst (v := 0) hx hb d_MD_object_61 (by decide) ?_
                exact W.iret hx hb hr (fun t ht _ => qr_i h ht hW) hW.2.2.2 d_MD_object_62
            exact k51 a1 a2 a3 a4 0 σ h _ _ hW _ (lv_sub hl [0, 1, 2, 3, 4] rfl)
          · rw [if_pos c16] at h
            refine lv_iconst (v := 2) hx hb d_MD_object_46 (by decide) ?_
            refine lv_goto (tgt := 51) hx hb d_MD_object_47 (by decide) ?_
            have k51 : ∀ (x1 : Int32) (x2 : Int32) (x3 : Int32) (x4 : Int32) (s0 : Int32) (σ : Sg) (h : C_MD_object_51 x1 x2 x3 x4 s0 σ = some out) (H : Heap) (locs : List Loc) (hW : WR G ad cI cZ s σ H locs) (ls : Array Slot) (hl : lv_has ls 5 [(0, .ref (ad 0)), (1, .int x1), (2, .int x2), (3, .int x3), (4, .int x4)]), W p l e (headSpec wl_MD_object ({ frames := 1, cells := 0, slots := 0, locals := 22 } : Room)).room s m (([.ref (ad 0), .int a1, .int a2, .int a3, .int a4] : List Value).toArray) below meth c H locs 0 0 (MQ below (QRi G ad cI cZ out) (([.ref (ad 0), .int a1, .int a2, .int a3, .int a4] : List Value).toArray) s 0 0 (AR ad)) (F0 m 51 ls [.int s0, .ref (ad 0)]) := by
              intro x1 x2 x3 x4 s0 σ h H locs hW ls hl
              unfold C_MD_object_51 at h
              refine pf_MD_84 C hD hW d_MD_object_51 (fun H locs hW => ?_)
              obtain ⟨σ17, e_σ17, h⟩ := lt1_some h
              rw [← e_σ17] at hW
              refine lv_aload_n hx hb d_MD_object_54 rfl (lv_at hl 0 rfl) ?_
              refine gf_MD_84 C hW.1 d_MD_object_55 ?_
              refine lv_if_eq (tgt := 63) hx hb d_MD_object_58 (by decide) (fun c18 => ?_) (fun c18 => ?_)
              · rw [if_pos c18] at h
                refine lv_aload_n hx hb d_MD_object_63 rfl (lv_at hl 0 rfl) ?_
                refine gf_MD_16 C hW.1 d_MD_object_64 ?_
                refine lv_iconst (v := 3) hx hb d_MD_object_67 (by decide) ?_
                refine lv_aload_n hx hb d_MD_object_68 rfl (lv_at hl 0 rfl) ?_
                refine gf_MD_90 C hW.1 d_MD_object_69 ?_
                refine lv_imul hx hb d_MD_object_72 ?_
                refine lv_iload_n hx hb d_MD_object_73 rfl (lv_at hl 1 rfl) ?_
                obtain ⟨hin, h⟩ := gd_some h
                refine asR_3 C hD hW hin d_MD_object_74 (fun H locs hW => ?_)
                obtain ⟨σ19, e_σ19, h⟩ := lt1_some h
                rw [← e_σ19] at hW
                refine lv_aload_n hx hb d_MD_object_75 rfl (lv_at hl 0 rfl) ?_
                refine gf_MD_16 C hW.1 d_MD_object_76 ?_
                refine lv_iconst (v := 3) hx hb d_MD_object_79 (by decide) ?_
                refine lv_aload_n hx hb d_MD_object_80 rfl (lv_at hl 0 rfl) ?_
                refine gf_MD_90 C hW.1 d_MD_object_81 ?_
                refine lv_imul hx hb d_MD_object_84 ?_
                refine lv_iconst (v := 1) hx hb d_MD_object_85 (by decide) ?_
                refine lv_iadd hx hb d_MD_object_86 ?_
                refine lv_iload_n hx hb d_MD_object_87 rfl (lv_at hl 2 rfl) ?_
                obtain ⟨hin, h⟩ := gd_some h
                refine asR_3 C hD hW hin d_MD_object_88 (fun H locs hW => ?_)
                obtain ⟨σ20, e_σ20, h⟩ := lt1_some h
                rw [← e_σ20] at hW
                refine lv_aload_n hx hb d_MD_object_89 rfl (lv_at hl 0 rfl) ?_
                refine gf_MD_16 C hW.1 d_MD_object_90 ?_
                refine lv_iconst (v := 3) hx hb d_MD_object_93 (by decide) ?_
                refine lv_aload_n hx hb d_MD_object_94 rfl (lv_at hl 0 rfl) ?_
                refine gf_MD_90 C hW.1 d_MD_object_95 ?_
                refine lv_imul hx hb d_MD_object_98 ?_
                refine lv_iconst (v := 2) hx hb d_MD_object_99 (by decide) ?_
                refine lv_iadd hx hb d_MD_object_100 ?_
                refine lv_iload_n hx hb d_MD_object_101 rfl (lv_at hl 3 rfl) ?_
                obtain ⟨hin, h⟩ := gd_some h
                refine asR_3 C hD hW hin d_MD_object_102 (fun H locs hW => ?_)
                obtain ⟨σ21, e_σ21, h⟩ := lt1_some h
                rw [← e_σ21] at hW
                refine lv_aload_n hx hb d_MD_object_103 rfl (lv_at hl 0 rfl) ?_
                refine gf_MD_19 C hW.1 d_MD_object_104 ?_
                refine lv_aload_n hx hb d_MD_object_107 rfl (lv_at hl 0 rfl) ?_
                refine gf_MD_90 C hW.1 d_MD_object_108 ?_
                refine lv_iload hx hb d_MD_object_111 (lv_at hl 4 rfl) ?_
                obtain ⟨hin, h⟩ := gd_some h
                refine asR_4 C hD hW hin d_MD_object_113 (fun H locs hW => ?_)
                obtain ⟨σ22, e_σ22, h⟩ := lt1_some h
                rw [← e_σ22] at hW
                refine lv_aload_n hx hb d_MD_object_114 rfl (lv_at hl 0 rfl) ?_
                refine lv_dup hx hb d_MD_object_115 rfl ?_
                refine gf_MD_90 C hW.1 d_MD_object_116 ?_
                refine lv_iconst (v := 1) hx hb d_MD_object_119 (by decide) ?_
                refine lv_iadd hx hb d_MD_object_120 ?_
                refine pf_MD_90 C hD hW d_MD_object_121 (fun H locs hW => ?_)
                obtain ⟨σ23, e_σ23, h⟩ := lt1_some h
                rw [← e_σ23] at hW
                refine lv_aload_n hx hb d_MD_object_124 rfl (lv_at hl 0 rfl) ?_
                refine gf_MD_90 C hW.1 d_MD_object_125 ?_
                refine lv_iconst (v := 1) hx hb d_MD_object_128 (by decide) ?_
                refine lv_isub hx hb d_MD_object_129 ?_
                exact W.iret hx hb hr (fun t ht _ => qr_i h ht hW) hW.2.2.2 d_MD_object_130
              · rw [if_neg c18] at h
                refine lv_iconst (v := 0) hx hb d_MD_object_61 (by decide) ?_
                exact W.iret hx hb hr (fun t ht _ => qr_i h ht hW) hW.2.2.2 d_MD_object_62
            exact k51 a1 a2 a3 a4 2 σ h _ _ hW _ (lv_sub hl [0, 1, 2, 3, 4] rfl)
        · rw [if_pos c8] at h
          refine lv_iconst (v := 1) hx hb d_MD_object_33 (by decide) ?_
          refine lv_goto (tgt := 51) hx hb d_MD_object_34 (by decide) ?_
          have k51 : ∀ (x1 : Int32) (x2 : Int32) (x3 : Int32) (x4 : Int32) (s0 : Int32) (σ : Sg) (h : C_MD_object_51 x1 x2 x3 x4 s0 σ = some out) (H : Heap) (locs : List Loc) (hW : WR G ad cI cZ s σ H locs) (ls : Array Slot) (hl : lv_has ls 5 [(0, .ref (ad 0)), (1, .int x1), (2, .int x2), (3, .int x3), (4, .int x4)]), W p l e (headSpec wl_MD_object ({ frames := 1, cells := 0, slots := 0, locals := 22 } : Room)).room s m (([.ref (ad 0), .int a1, .int a2, .int a3, .int a4] : List Value).toArray) below meth c H locs 0 0 (MQ below (QRi G ad cI cZ out) (([.ref (ad 0), .int a1, .int a2, .int a3, .int a4] : List Value).toArray) s 0 0 (AR ad)) (F0 m 51 ls [.int s0, .ref (ad 0)]) := by
            intro x1 x2 x3 x4 s0 σ h H locs hW ls hl
            unfold C_MD_object_51 at h
            refine pf_MD_84 C hD hW d_MD_object_51 (fun H locs hW => ?_)
            obtain ⟨σ9, e_σ9, h⟩ := lt1_some h
            rw [← e_σ9] at hW
            refine lv_aload_n hx hb d_MD_object_54 rfl (lv_at hl 0 rfl) ?_
            refine gf_MD_84 C hW.1 d_MD_object_55 ?_
            refine lv_if_eq (tgt := 63) hx hb d_MD_object_58 (by decide) (fun c10 => ?_) (fun c10 => ?_)
            · rw [if_pos c10] at h
              refine lv_aload_n hx hb d_MD_object_63 rfl (lv_at hl 0 rfl) ?_
              refine gf_MD_16 C hW.1 d_MD_object_64 ?_
              refine lv_iconst (v := 3) hx hb d_MD_object_67 (by decide) ?_
              refine lv_aload_n hx hb d_MD_object_68 rfl (lv_at hl 0 rfl) ?_
              refine gf_MD_90 C hW.1 d_MD_object_69 ?_
              refine lv_imul hx hb d_MD_object_72 ?_
              refine lv_iload_n hx hb d_MD_object_73 rfl (lv_at hl 1 rfl) ?_
              obtain ⟨hin, h⟩ := gd_some h
              refine asR_3 C hD hW hin d_MD_object_74 (fun H locs hW => ?_)
              obtain ⟨σ11, e_σ11, h⟩ := lt1_some h
              rw [← e_σ11] at hW
              refine lv_aload_n hx hb d_MD_object_75 rfl (lv_at hl 0 rfl) ?_
              refine gf_MD_16 C hW.1 d_MD_object_76 ?_
              refine lv_iconst (v := 3) hx hb d_MD_object_79 (by decide) ?_
              refine lv_aload_n hx hb d_MD_object_80 rfl (lv_at hl 0 rfl) ?_
              refine gf_MD_90 C hW.1 d_MD_object_81 ?_
              refine lv_imul hx hb d_MD_object_84 ?_
              refine lv_iconst (v := 1) hx hb d_MD_object_85 (by decide) ?_
              refine lv_iadd hx hb d_MD_object_86 ?_
              refine lv_iload_n hx hb d_MD_object_87 rfl (lv_at hl 2 rfl) ?_
              obtain ⟨hin, h⟩ := gd_some h
              refine asR_3 C hD hW hin d_MD_object_88 (fun H locs hW => ?_)
              obtain ⟨σ12, e_σ12, h⟩ := lt1_some h
              rw [← e_σ12] at hW
              refine lv_aload_n hx hb d_MD_object_89 rfl (lv_at hl 0 rfl) ?_
              refine gf_MD_16 C hW.1 d_MD_object_90 ?_
              refine lv_iconst (v := 3) hx hb d_MD_object_93 (by decide) ?_
              refine lv_aload_n hx hb d_MD_object_94 rfl (lv_at hl 0 rfl) ?_
              refine gf_MD_90 C hW.1 d_MD_object_95 ?_
              refine lv_imul hx hb d_MD_object_98 ?_
              refine lv_iconst (v := 2) hx hb d_MD_object_99 (by decide) ?_
              refine lv_iadd hx hb d_MD_object_100 ?_
              refine lv_iload_n hx hb d_MD_object_101 rfl (lv_at hl 3 rfl) ?_
              obtain ⟨hin, h⟩ := gd_some h
              refine asR_3 C hD hW hin d_MD_object_102 (fun H locs hW => ?_)
              obtain ⟨σ13, e_σ13, h⟩ := lt1_some h
              rw [← e_σ13] at hW
              refine lv_aload_n hx hb d_MD_object_103 rfl (lv_at hl 0 rfl) ?_
              refine gf_MD_19 C hW.1 d_MD_object_104 ?_
              refine lv_aload_n hx hb d_MD_object_107 rfl (lv_at hl 0 rfl) ?_
              refine gf_MD_90 C hW.1 d_MD_object_108 ?_
              refine lv_iload hx hb d_MD_object_111 (lv_at hl 4 rfl) ?_
              obtain ⟨hin, h⟩ := gd_some h
              refine asR_4 C hD hW hin d_MD_object_113 (fun H locs hW => ?_)
              obtain ⟨σ14, e_σ14, h⟩ := lt1_some h
              rw [← e_σ14] at hW
              refine lv_aload_n hx hb d_MD_object_114 rfl (lv_at hl 0 rfl) ?_
              refine lv_dup hx hb d_MD_object_115 rfl ?_
              refine gf_MD_90 C hW.1 d_MD_object_116 ?_
              refine lv_iconst (v := 1) hx hb d_MD_object_119 (by decide) ?_
              refine lv_iadd hx hb d_MD_object_120 ?_
              refine pf_MD_90 C hD hW d_MD_object_121 (fun H locs hW => ?_)
              obtain ⟨σ15, e_σ15, h⟩ := lt1_some h
              rw [← e_σ15] at hW
              refine lv_aload_n hx hb d_MD_object_124 rfl (lv_at hl 0 rfl) ?_
              refine gf_MD_90 C hW.1 d_MD_object_125 ?_
              refine lv_iconst (v := 1) hx hb d_MD_object_128 (by decide) ?_
              refine lv_isub hx hb d_MD_object_129 ?_
              exact W.iret hx hb hr (fun t ht _ => qr_i h ht hW) hW.2.2.2 d_MD_object_130
            · rw [if_neg c10] at h
              refine lv_iconst (v := 0) hx hb d_MD_object_61 (by decide) ?_
              exact W.iret hx hb hr (fun t ht _ => qr_i h ht hW) hW.2.2.2 d_MD_object_62
          exact k51 a1 a2 a3 a4 1 σ h _ _ hW _ (lv_sub hl [0, 1, 2, 3, 4] rfl)
