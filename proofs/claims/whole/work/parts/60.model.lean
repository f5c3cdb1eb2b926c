abbrev wl_MD_fits : List Cond := .code ⟨"PlaceMovesModel", "fits", "(II)Z"⟩ prog_9_method_27_code 3 (some FieldType.boolean) :: WG
set_option maxHeartbeats 4000000 in
set_option maxRecDepth 100000 in
theorem c_MD_fits (l : Launch) (G : va_G) (ad : Nat → Nat) (cI cZ : ClassId) (σ : Sg) (a1 : Int32) (a2 : Int32) (out : Int32) (h : f_MD_fits σ a1 a2 = some out) : Met l ⟨"PlaceMovesModel", "fits", "(II)Z"⟩ wl_MD_fits ({ frames := 1, cells := 0, slots := 0, locals := 27 } : Room) (PcR G ad cI cZ σ [.ref (ad 0), .int a1, .int a2]) (vp_Si (fun r => r = out)) 0 0 (fun _ => False) := by
  refine Met.ofW (cc := prog_9_method_27_code) (maxL := 3) (ret := (some FieldType.boolean)) (by decide) rfl ?_
  intro p e s m args below meth c s₁ B hml hv
  obtain ⟨rfl, hP, hK⟩ := hv
  have hx := B.exec
  have hb := B.bytes
  have hr := B.returns
  have hts0 := atoms_spec (ws := wl_MD_fits) B.pre
  have hts : ∀ w ∈ WG, w.before _ s = true := fun w hw => hts0 w (List.mem_cons_of_mem _ hw)
  have hown : s.vm.findClass "PlaceMovesModel" = some m.cls := findClass_of_methodNamed B.named
  have hlocks := B.notSynchronized
  have C : CX "PlaceMovesModel" prog_9_method_27_code p s m _ c G cI cZ := ⟨hx, hb, hown, hts, hK⟩
  have hl := lv_entry ([.ref (ad 0), .int a1, .int a2]) (n := 3) (Nat.le_of_ble_eq_true rfl)
  rw [lg_entry_eq]
  generalize (lg_sl ([.ref (ad 0), .int a1, .int a2]) ++ List.replicate (3 - (lg_sl ([.ref (ad 0), .int a1, .int a2])).length) Slot.unset).toArray = ls at hl ⊢
  have hl : lv_has ls 3 [(0, .ref (ad 0)), (1, .int a1), (2, .int a2)] := hl
  unfold f_MD_fits at h
  refine lv_aload_n hx hb d_MD_fits_0 rfl (lv_at hl 0 rfl) ?_
  refine lv_iload_n hx hb d_MD_fits_1 rfl (lv_at hl 1 rfl) ?_
  refine lv_iconst (v := 0) hx hb d_MD_fits_2 (by decide) ?_
  obtain ⟨r1, g_r1, h⟩ := ob_some h
  refine cl_MD_161 (rest := []) C (hml.trans hl.1.symm) hP g_r1 ⟨Nat.le_of_ble_eq_true rfl, Nat.le_of_ble_eq_true rfl⟩ (Nat.le_of_ble_eq_true rfl) d_MD_fits_3 ⟨Nat.zero_le _, Nat.zero_le _⟩ ?_
  refine lv_aload_n hx hb d_MD_fits_6 rfl (lv_at hl 0 rfl) ?_
  refine lv_iload_n hx hb d_MD_fits_7 rfl (lv_at hl 2 rfl) ?_
  refine lv_iconst (v := 0) hx hb d_MD_fits_8 (by decide) ?_
  obtain ⟨r2, g_r2, h⟩ := ob_some h
  refine cl_MD_161 (rest := [.int r1]) C (hml.trans hl.1.symm) hP g_r2 ⟨Nat.le_of_ble_eq_true rfl, Nat.le_of_ble_eq_true rfl⟩ (Nat.le_of_ble_eq_true rfl) d_MD_fits_9 ⟨Nat.zero_le _, Nat.zero_le _⟩ ?_
  refine lv_icmp_ge (tgt := 49) hx hb d_MD_fits_12 (by decide) (fun c3 => ?_) (fun c3 => ?_)
  · rw [if_pos c3] at h
    refine lv_iconst (v := 0) hx hb d_MD_fits_49 (by decide) ?_
    exact W.zret hx hb hr rfl (fun t ht _ => ⟨_, rfl, Option.some.inj h, ht⟩) (fun _ hq => nomatch hq) d_MD_fits_50
  · rw [if_neg c3] at h
    refine lv_aload_n hx hb d_MD_fits_15 rfl (lv_at hl 0 rfl) ?_
    refine lv_iload_n hx hb d_MD_fits_16 rfl (lv_at hl 1 rfl) ?_
    refine lv_iconst (v := 1) hx hb d_MD_fits_17 (by decide) ?_
    obtain ⟨r4, g_r4, h⟩ := ob_some h
    refine cl_MD_161 (rest := []) C (hml.trans hl.1.symm) hP g_r4 ⟨Nat.le_of_ble_eq_true rfl, Nat.le_of_ble_eq_true rfl⟩ (Nat.le_of_ble_eq_true rfl) d_MD_fits_18 ⟨Nat.zero_le _, Nat.zero_le _⟩ ?_
    refine lv_aload_n hx hb d_MD_fits_21 rfl (lv_at hl 0 rfl) ?_
    refine lv_iload_n hx hb d_MD_fits_22 rfl (lv_at hl 2 rfl) ?_
    refine lv_iconst (v := 1) hx hb d_MD_fits_23 (by decide) ?_
    obtain ⟨r5, g_r5, h⟩ := ob_some h
    refine cl_MD_161 (rest := [.int r4]) C (hml.trans hl.1.symm) hP g_r5 ⟨Nat.le_of_ble_eq_true rfl, Nat.le_of_ble_eq_true rfl⟩ (Nat.le_of_ble_eq_true rfl) d_MD_fits_24 ⟨Nat.zero_le _, Nat.zero_le _⟩ ?_
    refine lv_icmp_ge (tgt := 49) hx hb d_MD_fits_27 (by decide) (fun c6 => ?_) (fun c6 => ?_)
    · rw [if_pos c6] at h
      refine lv_iconst (v := 0) hx hb d_MD_fits_49 (by decide) ?_
      exact W.zret hx hb hr rfl (fun t ht _ => ⟨_, rfl, Option.some.inj h, ht⟩) (fun _ hq => nomatch hq) d_MD_fits_50
    · rw [if_neg c6] at h
      refine lv_aload_n hx hb d_MD_fits_30 rfl (lv_at hl 0 rfl) ?_
      refine lv_iload_n hx hb d_MD_fits_31 rfl (lv_at hl 1 rfl) ?_
      refine lv_iconst (v := 2) hx hb d_MD_fits_32 (by decide) ?_
      obtain ⟨r7, g_r7, h⟩ := ob_some h
      refine cl_MD_161 (rest := []) C (hml.trans hl.1.symm) hP g_r7 ⟨Nat.le_of_ble_eq_true rfl, Nat.le_of_ble_eq_true rfl⟩ (Nat.le_of_ble_eq_true rfl) d_MD_fits_33 ⟨Nat.zero_le _, Nat.zero_le _⟩ ?_
      refine lv_aload_n hx hb d_MD_fits_36 rfl (lv_at hl 0 rfl) ?_
      refine lv_iload_n hx hb d_MD_fits_37 rfl (lv_at hl 2 rfl) ?_
      refine lv_iconst (v := 2) hx hb d_MD_fits_38 (by decide) ?_
      obtain ⟨r8, g_r8, h⟩ := ob_some h
      refine cl_MD_161 (rest := [.int r7]) C (hml.trans hl.1.symm) hP g_r8 ⟨Nat.le_of_ble_eq_true rfl, Nat.le_of_ble_eq_true rfl⟩ (Nat.le_of_ble_eq_true rfl) d_MD_fits_39 ⟨Nat.zero_le _, Nat.zero_le _⟩ ?_
      refine lv_icmp_ge (tgt := 49) hx hb d_MD_fits_42 (by decide) (fun c9 => ?_) (fun c9 => ?_)
      · rw [if_pos c9] at h
        refine lv_iconst (v := 0) hx hb d_MD_fits_49 (by decide) ?_
        exact W.zret hx hb hr rfl (fun t ht _ => ⟨_, rfl, Option.some.inj h, ht⟩) (fun _ hq => nomatch hq) d_MD_fits_50
      · rw [if_neg c9] at h
        refine lv_iconst (v := 1) hx hb d_MD_fits_45 (by decide) ?_
        refine lv_goto (tgt := 50) hx hb d_MD_fits_46 (by decide) ?_
        exact W.zret hx hb hr rfl (fun t ht _ => ⟨_, rfl, Option.some.inj h, ht⟩) (fun _ hq => nomatch hq) d_MD_fits_50
section RC
variable {p : Program} {l : Launch} {e : Env} {R : Room} {s : State} {m : MethodId} {args : Array Value} {below : List Frame} {meth : Method} {c : Code} {H : Heap} {locs : List Loc} {cells slots : Nat} {Q : State → Prop}
variable {cc : ByteArray} {pc : Nat} {ls : Array Slot} {rest : List Value} {G : va_G} {ad : Nat → Nat} {cI cZ : ClassId} {σ : Sg} {own : String}
theorem cl_MD_167 (C : CX "PlaceMovesModel" cc p s m args c G cI cZ) (hml : c.maxLocals = ls.size) (hP : va_P G clX (wR ad cI cZ σ) H) {x1 : Int32} {x2 : Int32} {r : Int32} (hg : f_MD_fits σ x1 x2 = some r) (hR : 1 + 1 ≤ R.frames ∧ 8 + (3 + 11) + 27 ≤ R.locals) (hrest : (rest.map fun v => v.category).sum ≤ 8) (hd : decode cc pc = .ok (.invokevirtual 167, 3)) (hcs : cells + 0 ≤ R.cells ∧ slots + 0 ≤ R.slots) (kk : W p l e R s m args below meth c H locs cells slots Q (F0 m (pc + 3) ls (.int r :: rest))) : W p l e R s m args below meth c H locs cells slots Q (F0 m pc ls (.int x2 :: .int x1 :: .ref (ad 0) :: rest)) :=
  vp_callSi (W.runV (As := [.int x1, .int x2]) (rest := rest) ⟨C.1, C.2.1, hml, C.2.2.1, C.2.2.2.1⟩ (c_MD_fits l G ad cI cZ σ x1 x2 r hg) (cwV 2 C.2.2.2.1 (wg_V w_796 w_798 ws_31 w_8 w_799) rfl rfl rfl (by decide +kernel) hR) ⟨PcR.blind, va_recv C.2.2.2.2.1 hP (ci := 7) (q0 := 0) rfl rfl, fun U hU hW => ⟨rfl, by rw [hU]; exact hP, C.2.2.2.2.warm hW⟩⟩ rfl rfl rfl rfl (lv_room hrest) hd hcs) (fun r' e => by subst e; exact kk)
end RC
abbrev wl_MD_into : List Cond := .code ⟨"PlaceMovesModel", "into", "(III)I"⟩ prog_9_method_28_code 7 (some FieldType.int) :: WG
set_option maxHeartbeats 4000000 in
set_option maxRecDepth 100000 in
theorem c_MD_into (l : Launch) (G : va_G) (ad : Nat → Nat) (cI cZ : ClassId) (hD : DR ad) (σ : Sg) (a1 : Int32) (a2 : Int32) (a3 : Int32) (out : Int32 × Sg) (h : f_MD_into σ a1 a2 a3 = some out) : Met l ⟨"PlaceMovesModel", "into", "(III)I"⟩ wl_MD_into ({ frames := 5, cells := 0, slots := 0, locals := 122 } : Room) (PcR G ad cI cZ σ [.ref (ad 0), .int a1, .int a2, .int a3]) (QRi G ad cI cZ out) 0 0 (AR ad) := by
  refine Met.ofW (cc := prog_9_method_28_code) (maxL := 7) (ret := (some FieldType.int)) (by decide) rfl ?_
  intro p e s m args below meth c s₁ B hml hv
  obtain ⟨rfl, hP, hK⟩ := hv
  have hx := B.exec
  have hb := B.bytes
  have hr := B.returns
  have hts0 := atoms_spec (ws := wl_MD_into) B.pre
  have hts : ∀ w ∈ WG, w.before _ s = true := fun w hw => hts0 w (List.mem_cons_of_mem _ hw)
  have hown : s.vm.findClass "PlaceMovesModel" = some m.cls := findClass_of_methodNamed B.named
  have hlocks := B.notSynchronized
  have C : CX "PlaceMovesModel" prog_9_method_28_code p s m _ c G cI cZ := ⟨hx, hb, hown, hts, hK⟩
  have hl := lv_entry ([.ref (ad 0), .int a1, .int a2, .int a3]) (n := 7) (Nat.le_of_ble_eq_true rfl)
  rw [lg_entry_eq]
  generalize (lg_sl ([.ref (ad 0), .int a1, .int a2, .int a3]) ++ List.replicate (7 - (lg_sl ([.ref (ad 0), .int a1, .int a2, .int a3])).length) Slot.unset).toArray = ls at hl ⊢
  have hl : lv_has ls 7 [(0, .ref (ad 0)), (1, .int a1), (2, .int a2), (3, .int a3)] := hl
  unfold f_MD_into at h
  have hW : WR G ad cI cZ s σ s.heap [] := ⟨hP, va_S.rf⟩
  refine lv_aload_n hx hb d_MD_into_0 rfl (lv_at hl 0 rfl) ?_
  refine lv_iload_n hx hb d_MD_into_1 rfl (lv_at hl 1 rfl) ?_
  obtain ⟨r1, g_r1, h⟩ := ob_some h
  refine cl_MD_110 (rest := []) C (hml.trans hl.1.symm) hW.1 g_r1 ⟨Nat.le_of_ble_eq_true rfl, Nat.le_of_ble_eq_true rfl⟩ (Nat.le_of_ble_eq_true rfl) d_MD_into_2 ⟨Nat.zero_le _, Nat.zero_le _⟩ ?_
  refine lv_if_eq (tgt := 20) hx hb d_MD_into_5 (by decide) (fun c2 => ?_) (fun c2 => ?_)
  · rw [if_pos c2] at h
    refine lv_iconst (v := 0) hx hb d_MD_into_20 (by decide) ?_
    have k21 : ∀ (x1 : Int32) (x2 : Int32) (x3 : Int32) (s0 : Int32) (σ : Sg) (h : C_MD_into_21 x1 x2 x3 s0 σ = some out) (H : Heap) (locs : List Loc) (hW : WR G ad cI cZ s σ H locs) (ls : Array Slot) (hl : lv_has ls 7 [(0, .ref (ad 0)), (1, .int x1), (2, .int x2), (3, .int x3)]), W p l e (headSpec wl_MD_into ({ frames := 5, cells := 0, slots := 0, locals := 122 } : Room)).room s m (([.ref (ad 0), .int a1, .int a2, .int a3] : List Value).toArray) below meth c H locs 0 0 (MQ below (QRi G ad cI cZ out) (([.ref (ad 0), .int a1, .int a2, .int a3] : List Value).toArray) s 0 0 (AR ad)) (F0 m 21 ls [.int s0]) := by
      intro x1 x2 x3 s0 σ h H locs hW ls hl
      unfold C_MD_into_21 at h
      refine lv_istore (lv' := [(4, .int s0), (0, .ref (ad 0)), (1, .int x1), (2, .int x2), (3, .int x3)]) hx hb d_MD_into_21 hl (by decide) rfl (fun ls hl => ?_)
      refine lv_aload_n hx hb d_MD_into_23 rfl (lv_at hl 1 rfl) ?_
      refine lv_iload hx hb d_MD_into_24 (lv_at hl 0 rfl) ?_
      refine lv_iload_n hx hb d_MD_into_26 rfl (lv_at hl 4 rfl) ?_
      refine lv_aload_n hx hb d_MD_into_27 rfl (lv_at hl 1 rfl) ?_
      refine gf_MD_145 C hW.1 d_MD_into_28 ?_
      refine lv_ldc (v := 1000000) hx hb hown (hts _ w_724) d_MD_into_31 ?_
      obtain ⟨r197, g_r197, h⟩ := ob_some h
      refine cl_MD_98 (rest := [.int s0, .ref (ad 0)]) C (hml.trans hl.1.symm) hW.1 g_r197 ⟨Nat.le_of_ble_eq_true rfl, Nat.le_of_ble_eq_true rfl⟩ (Nat.le_of_ble_eq_true rfl) d_MD_into_33 ⟨Nat.zero_le _, Nat.zero_le _⟩ ?_
      refine lv_iload hx hb d_MD_into_36 (lv_at hl 0 rfl) ?_
      refine lv_if_eq (tgt := 56) hx hb d_MD_into_38 (by decide) (fun c198 => ?_) (fun c198 => ?_)
      · rw [if_pos c198] at h
        refine lv_iconst (v := 0) hx hb d_MD_into_56 (by decide) ?_
        have k57 : ∀ (x1 : Int32) (x2 : Int32) (x3 : Int32) (s0 : Int32) (s1 : Int32) (s2 : Int32) (σ : Sg) (h : C_MD_into_57 x1 x2 x3 s0 s1 s2 σ = some out) (H : Heap) (locs : List Loc) (hW : WR G ad cI cZ s σ H locs) (ls : Array Slot) (hl : lv_has ls 7 [(0, .ref (ad 0)), (1, .int x1), (2, .int x2), (3, .int x3)]), W p l e (headSpec wl_MD_into ({ frames := 5, cells := 0, slots := 0, locals := 122 } : Room)).room s m (([.ref (ad 0), .int a1, .int a2, .int a3] : List Value).toArray) below meth c H locs 0 0 (MQ below (QRi G ad cI cZ out) (([.ref (ad 0), .int a1, .int a2, .int a3] : List Value).toArray) s 0 0 (AR ad)) (F0 m 57 ls [.int s0, .int s1, .int s2, .ref (ad 0)]) := by
          intro x1 x2 x3 s0 s1 s2 σ h H locs hW ls hl
          unfold C_MD_into_57 at h
          obtain ⟨r262, g_r262, h⟩ := ob_some h
          refine cl_MD_102 (rest := []) C hD (hml.trans hl.1.symm) hW g_r262 ⟨Nat.le_of_ble_eq_true rfl, Nat.le_of_ble_eq_true rfl⟩ (Nat.le_of_ble_eq_true rfl) d_MD_into_57 ⟨Nat.zero_le _, Nat.zero_le _⟩ (fun H locs hW => ?_)
          refine lv_if_ne (tgt := 65) hx hb d_MD_into_60 (by decide) (fun c263 => ?_) (fun c263 => ?_)
          · rw [if_neg c263] at h
            refine lv_aload_n hx hb d_MD_into_65 rfl (lv_at hl 0 rfl) ?_
            refine lv_iload_n hx hb d_MD_into_66 rfl (lv_at hl 2 rfl) ?_
            refine lv_iload_n hx hb d_MD_into_67 rfl (lv_at hl 3 rfl) ?_
            obtain ⟨r264, g_r264, h⟩ := ob_some h
            refine cl_MD_130 (rest := []) C (hml.trans hl.1.symm) hW.1 g_r264 ⟨Nat.le_of_ble_eq_true rfl, Nat.le_of_ble_eq_true rfl⟩ (Nat.le_of_ble_eq_true rfl) d_MD_into_68 ⟨Nat.zero_le _, Nat.zero_le _⟩ ?_
            refine lv_istore (lv' := [(5, .int r264), (0, .ref (ad 0)), (1, .int x1), (2, .int x2), (3, .int x3)]) hx hb d_MD_into_71 hl (by decide) rfl (fun ls hl => ?_)
            refine lv_aload_n hx hb d_MD_into_73 rfl (lv_at hl 1 rfl) ?_
            refine gf_MD_25 C hW.1 d_MD_into_74 ?_
            refine lv_iload_n hx hb d_MD_into_77 rfl (lv_at hl 3 rfl) ?_
            obtain ⟨hin, h⟩ := gd_some h
            refine alR_6 C hW.1 hin d_MD_into_78 ?_
            refine lv_if_eq (tgt := 92) hx hb d_MD_into_79 (by decide) (fun c265 => ?_) (fun c265 => ?_)
            · rw [if_pos c265] at h
              have k92 : ∀ (x1 : Int32) (x2 : Int32) (x3 : Int32) (σ : Sg) (h : C_MD_into_92 x1 x2 x3 σ = some out) (H : Heap) (locs : List Loc) (hW : WR G ad cI cZ s σ H locs) (ls : Array Slot) (hl : lv_has ls 7 [(0, .ref (ad 0)), (1, .int x1), (2, .int x2), (3, .int x3)]), W p l e (headSpec wl_MD_into ({ frames := 5, cells := 0, slots := 0, locals := 122 } : Room)).room s m (([.ref (ad 0), .int a1, .int a2, .int a3] : List Value).toArray) below meth c H locs 0 0 (MQ below (QRi G ad cI cZ out) (([.ref (ad 0), .int a1, .int a2, .int a3] : List Value).toArray) s 0 0 (AR ad)) (F0 m 92 ls []) := by
                intro x1 x2 x3 σ h H locs hW ls hl
                unfold C_MD_into_92 at h
                refine lv_iconst (v := 1) hx hb d_MD_into_92 (by decide) ?_
                refine lv_goto (tgt := 164) hx hb d_MD_into_93 (by decide) ?_
                refine lv_istore (lv' := [(6, .int 1), (0, .ref (ad 0)), (1, .int x1), (2, .int x2), (3, .int x3)]) hx hb d_MD_into_164 hl (by decide) rfl (fun ls hl => ?_)
                refine lv_iload hx hb d_MD_into_166 (lv_at hl 0 rfl) ?_
                refine lv_if_ne (tgt := 179) hx hb d_MD_into_168 (by decide) (fun c291 => ?_) (fun c291 => ?_)
                · rw [if_neg c291] at h
                  refine lv_iload hx hb d_MD_into_179 (lv_at hl 0 rfl) ?_
                  exact W.iret hx hb hr (fun t ht _ => qr_i h ht hW) hW.2.2.2 d_MD_into_181
                · rw [if_pos c291] at h
                  refine lv_aload_n hx hb d_MD_into_171 rfl (lv_at hl 1 rfl) ?_
                  refine lv_iload_n hx hb d_MD_into_172 rfl (lv_at hl 2 rfl) ?_
                  refine lv_iload_n hx hb d_MD_into_173 rfl (lv_at hl 4 rfl) ?_
                  refine lv_iconst (v := 1) hx hb d_MD_into_174 (by decide) ?_
                  refine lv_iload_n hx hb d_MD_into_175 rfl (lv_at hl 3 rfl) ?_
                  obtain ⟨r292, g_r292, h⟩ := ob_some h
                  refine cl_MD_157 (rest := []) C hD (hml.trans hl.1.symm) hW g_r292 ⟨Nat.le_of_ble_eq_true rfl, Nat.le_of_ble_eq_true rfl⟩ (Nat.le_of_ble_eq_true rfl) d_MD_into_176 ⟨Nat.zero_le _, Nat.zero_le _⟩ (fun H locs hW => ?_)
                  refine lv_iload hx hb d_MD_into_179 (lv_at hl 0 rfl) ?_
                  exact W.iret hx hb hr (fun t ht _ => qr_i h ht hW) hW.2.2.2 d_MD_into_181
              exact k92 x1 x2 x3 r262.2 h _ _ hW _ (lv_sub hl [1, 2, 3, 4] rfl)
            · rw [if_neg c265] at h
              refine lv_aload_n hx hb d_MD_into_82 rfl (lv_at hl 1 rfl) ?_
              refine lv_iload_n hx hb d_MD_into_83 rfl (lv_at hl 2 rfl) ?_
              refine lv_iload_n hx hb d_MD_into_84 rfl (lv_at hl 3 rfl) ?_
              refine lv_iload_n hx hb d_MD_into_85 rfl (lv_at hl 4 rfl) ?_
              obtain ⟨r266, g_r266, h⟩ := ob_some h
              refine cl_MD_164 (rest := []) C (hml.trans hl.1.symm) hW.1 g_r266 ⟨Nat.le_of_ble_eq_true rfl, Nat.le_of_ble_eq_true rfl⟩ (Nat.le_of_ble_eq_true rfl) d_MD_into_86 ⟨Nat.zero_le _, Nat.zero_le _⟩ ?_
              refine lv_if_eq (tgt := 96) hx hb d_MD_into_89 (by decide) (fun c267 => ?_) (fun c267 => ?_)
              · rw [if_pos c267] at h
                refine lv_aload_n hx hb d_MD_into_96 rfl (lv_at hl 1 rfl) ?_
                refine lv_iload_n hx hb d_MD_into_97 rfl (lv_at hl 2 rfl) ?_
                refine lv_iload_n hx hb d_MD_into_98 rfl (lv_at hl 3 rfl) ?_
                obtain ⟨r270, g_r270, h⟩ := ob_some h
                refine cl_MD_167 (rest := []) C (hml.trans hl.1.symm) hW.1 g_r270 ⟨Nat.le_of_ble_eq_true rfl, Nat.le_of_ble_eq_true rfl⟩ (Nat.le_of_ble_eq_true rfl) d_MD_into_99 ⟨Nat.zero_le _, Nat.zero_le _⟩ ?_
                refine lv_if_ne (tgt := 109) hx hb d_MD_into_102 (by decide) (fun c271 => ?_) (fun c271 => ?_)
                · rw [if_neg c271] at h
                  refine lv_aload_n hx hb d_MD_into_109 rfl (lv_at hl 1 rfl) ?_
                  refine gf_MD_22 C hW.1 d_MD_into_110 ?_
                  refine lv_iload_n hx hb d_MD_into_113 rfl (lv_at hl 2 rfl) ?_
                  obtain ⟨hin, h⟩ := gd_some h
                  refine alR_5 C hW.1 hin d_MD_into_114 ?_
                  refine lv_if_le (tgt := 122) hx hb d_MD_into_115 (by decide) (fun c274 => ?_) (fun c274 => ?_)
                  · rw [if_pos c274] at h
                    refine lv_aload_n hx hb d_MD_into_122 rfl (lv_at hl 1 rfl) ?_
                    refine lv_aload_n hx hb d_MD_into_123 rfl (lv_at hl 1 rfl) ?_
                    refine lv_iload_n hx hb d_MD_into_124 rfl (lv_at hl 2 rfl) ?_
                    refine lv_iload_n hx hb d_MD_into_125 rfl (lv_at hl 4 rfl) ?_
                    obtain ⟨r277, g_r277, h⟩ := ob_some h
                    refine cl_MD_130 (rest := [.ref (ad 0)]) C (hml.trans hl.1.symm) hW.1 g_r277 ⟨Nat.le_of_ble_eq_true rfl, Nat.le_of_ble_eq_true rfl⟩ (Nat.le_of_ble_eq_true rfl) d_MD_into_126 ⟨Nat.zero_le _, Nat.zero_le _⟩ ?_
                    refine lv_iload hx hb d_MD_into_129 (lv_at hl 0 rfl) ?_
                    refine lv_iload_n hx hb d_MD_into_131 rfl (lv_at hl 4 rfl) ?_
                    obtain ⟨r278, g_r278, h⟩ := ob_some h
                    refine cl_MD_151 (rest := []) C (hml.trans hl.1.symm) hW.1 g_r278 ⟨Nat.le_of_ble_eq_true rfl, Nat.le_of_ble_eq_true rfl⟩ (Nat.le_of_ble_eq_true rfl) d_MD_into_132 ⟨Nat.zero_le _, Nat.zero_le _⟩ ?_
                    refine lv_if_eq (tgt := 142) hx hb d_MD_into_135 (by decide) (fun c279 => ?_) (fun c279 => ?_)
                    · rw [if_pos c279] at h
                      refine lv_iload hx hb d_MD_into_142 (lv_at hl 0 rfl) ?_
                      refine lv_iconst (v := (-1)) hx hb d_MD_into_144 (by decide) ?_
                      refine lv_icmp_eq (tgt := 163) hx hb d_MD_into_145 (by decide) (fun c282 => ?_) (fun c282 => ?_)
                      · rw [if_pos c282] at h
                        refine lv_iconst (v := 0) hx hb d_MD_into_163 (by decide) ?_
                        refine lv_istore (lv' := [(6, .int 0), (5, .int r264), (0, .ref (ad 0)), (1, .int x1), (2, .int x2), (3, .int x3)]) hx hb d_MD_into_164 hl (by decide) rfl (fun ls hl => ?_)
                        refine lv_iload hx hb d_MD_into_166 (lv_at hl 0 rfl) ?_
                        refine lv_if_ne (tgt := 179) hx hb d_MD_into_168 (by decide) (fun c289 => ?_) (fun c289 => ?_)
                        · rw [if_neg c289] at h
                          refine lv_iload hx hb d_MD_into_179 (lv_at hl 0 rfl) ?_
                          exact W.iret hx hb hr (fun t ht _ => qr_i h ht hW) hW.2.2.2 d_MD_into_181
                        · rw [if_pos c289] at h
                          refine lv_aload_n hx hb d_MD_into_171 rfl (lv_at hl 2 rfl) ?_
                          refine lv_iload_n hx hb d_MD_into_172 rfl (lv_at hl 3 rfl) ?_
                          refine lv_iload_n hx hb d_MD_into_173 rfl (lv_at hl 5 rfl) ?_
                          refine lv_iconst (v := 1) hx hb d_MD_into_174 (by decide) ?_
                          refine lv_iload_n hx hb d_MD_into_175 rfl (lv_at hl 4 rfl) ?_
                          obtain ⟨r290, g_r290, h⟩ := ob_some h
                          refine cl_MD_157 (rest := []) C hD (hml.trans hl.1.symm) hW g_r290 ⟨Nat.le_of_ble_eq_true rfl, Nat.le_of_ble_eq_true rfl⟩ (Nat.le_of_ble_eq_true rfl) d_MD_into_176 ⟨Nat.zero_le _, Nat.zero_le _⟩ (fun H locs hW => ?_)
                          refine lv_iload hx hb d_MD_into_179 (lv_at hl 0 rfl) ?_
                          exact W.iret hx hb hr (fun t ht _ => qr_i h ht hW) hW.2.2.2 d_MD_into_181
                      · rw [if_neg c282] at h
                        refine lv_aload_n hx hb d_MD_into_148 rfl (lv_at hl 1 rfl) ?_
                        refine lv_iload_n hx hb d_MD_into_149 rfl (lv_at hl 2 rfl) ?_
                        refine lv_iload hx hb d_MD_into_150 (lv_at hl 0 rfl) ?_
                        refine lv_iload_n hx hb d_MD_into_152 rfl (lv_at hl 4 rfl) ?_
                        obtain ⟨r283, g_r283, h⟩ := ob_some h
                        refine cl_MD_154 (rest := []) C hD (hml.trans hl.1.symm) hW g_r283 ⟨Nat.le_of_ble_eq_true rfl, Nat.le_of_ble_eq_true rfl⟩ (Nat.le_of_ble_eq_true rfl) d_MD_into_153 ⟨Nat.zero_le _, Nat.zero_le _⟩ (fun H locs hW => ?_)
                        refine lv_if_ne (tgt := 163) hx hb d_MD_into_156 (by decide) (fun c284 => ?_) (fun c284 => ?_)
                        · rw [if_neg c284] at h
                          refine lv_iconst (v := 0) hx hb d_MD_into_163 (by decide) ?_
                          refine lv_istore (lv' := [(6, .int 0), (5, .int r264), (0, .ref (ad 0)), (1, .int x1), (2, .int x2), (3, .int x3)]) hx hb d_MD_into_164 hl (by decide) rfl (fun ls hl => ?_)
                          refine lv_iload hx hb d_MD_into_166 (lv_at hl 0 rfl) ?_
                          refine lv_if_ne (tgt := 179) hx hb d_MD_into_168 (by decide) (fun c287 => ?_) (fun c287 => ?_)
                          · rw [if_neg c287] at h
                            refine lv_iload hx hb d_MD_into_179 (lv_at hl 0 rfl) ?_
                            exact W.iret hx hb hr (fun t ht _ => qr_i h ht hW) hW.2.2.2 d_MD_into_181
                          · rw [if_pos c287] at h
                            refine lv_aload_n hx hb d_MD_into_171 rfl (lv_at hl 2 rfl) ?_
                            refine lv_iload_n hx hb d_MD_into_172 rfl (lv_at hl 3 rfl) ?_
                            refine lv_iload_n hx hb d_MD_into_173 rfl (lv_at hl 5 rfl) ?_
                            refine lv_iconst (v := 1) hx hb d_MD_into_174 (by decide) ?_
                            refine lv_iload_n hx hb d_MD_into_175 rfl (lv_at hl 4 rfl) ?_
                            obtain ⟨r288, g_r288, h⟩ := ob_some h
                            refine cl_MD_157 (rest := []) C hD (hml.trans hl.1.symm) hW g_r288 ⟨Nat.le_of_ble_eq_true rfl, Nat.le_of_ble_eq_true rfl⟩ (Nat.le_of_ble_eq_true rfl) d_MD_into_176 ⟨Nat.zero_le _, Nat.zero_le _⟩ (fun H locs hW => ?_)
                            refine lv_iload hx hb d_MD_into_179 (lv_at hl 0 rfl) ?_
                            exact W.iret hx hb hr (fun t ht _ => qr_i h ht hW) hW.2.2.2 d_MD_into_181
                        · rw [if_pos c284] at h
                          refine lv_iconst (v := 5) hx hb d_MD_into_159 (by decide) ?_
                          refine lv_goto (tgt := 164) hx hb d_MD_into_160 (by decide) ?_
                          refine lv_istore (lv' := [(6, .int 5), (5, .int r264), (0, .ref (ad 0)), (1, .int x1), (2, .int x2), (3, .int x3)]) hx hb d_MD_into_164 hl (by decide) rfl (fun ls hl => ?_)
                          refine lv_iload hx hb d_MD_into_166 (lv_at hl 0 rfl) ?_
                          refine lv_if_ne (tgt := 179) hx hb d_MD_into_168 (by decide) (fun c285 => ?_) (fun c285 => ?_)
                          · rw [if_neg c285] at h
                            refine lv_iload hx hb d_MD_into_179 (lv_at hl 0 rfl) ?_
                            exact W.iret hx hb hr (fun t ht _ => qr_i h ht hW) hW.2.2.2 d_MD_into_181
                          · rw [if_pos c285] at h
                            refine lv_aload_n hx hb d_MD_into_171 rfl (lv_at hl 2 rfl) ?_
                            refine lv_iload_n hx hb d_MD_into_172 rfl (lv_at hl 3 rfl) ?_
                            refine lv_iload_n hx hb d_MD_into_173 rfl (lv_at hl 5 rfl) ?_
                            refine lv_iconst (v := 1) hx hb d_MD_into_174 (by decide) ?_
                            refine lv_iload_n hx hb d_MD_into_175 rfl (lv_at hl 4 rfl) ?_
                            obtain ⟨r286, g_r286, h⟩ := ob_some h
                            refine cl_MD_157 (rest := []) C hD (hml.trans hl.1.symm) hW g_r286 ⟨Nat.le_of_ble_eq_true rfl, Nat.le_of_ble_eq_true rfl⟩ (Nat.le_of_ble_eq_true rfl) d_MD_into_176 ⟨Nat.zero_le _, Nat.zero_le _⟩ (fun H locs hW => ?_)
                            refine lv_iload hx hb d_MD_into_179 (lv_at hl 0 rfl) ?_
                            exact W.iret hx hb hr (fun t ht _ => qr_i h ht hW) hW.2.2.2 d_MD_into_181
                    · rw [if_neg c279] at h
                      refine lv_iconst (v := 4) hx hb d_MD_into_138 (by decide) ?_
                      refine lv_goto (tgt := 164) hx hb d_MD_into_139 (by decide) ?_
                      refine lv_istore (lv' := [(6, .int 4), (5, .int r264), (0, .ref (ad 0)), (1, .int x1), (2, .int x2), (3, .int x3)]) hx hb d_MD_into_164 hl (by decide) rfl (fun ls hl => ?_)
                      refine lv_iload hx hb d_MD_into_166 (lv_at hl 0 rfl) ?_
                      refine lv_if_ne (tgt := 179) hx hb d_MD_into_168 (by decide) (fun c280 => ?_) (fun c280 => ?_)
                      · rw [if_neg c280] at h
                        refine lv_iload hx hb d_MD_into_179 (lv_at hl 0 rfl) ?_
                        exact W.iret hx hb hr (fun t ht _ => qr_i h ht hW) hW.2.2.2 d_MD_into_181
                      · rw [if_pos c280] at h
                        refine lv_aload_n hx hb d_MD_into_171 rfl (lv_at hl 2 rfl) ?_
                        refine lv_iload_n hx hb d_MD_into_172 rfl (lv_at hl 3 rfl) ?_
                        refine lv_iload_n hx hb d_MD_into_173 rfl (lv_at hl 5 rfl) ?_
                        refine lv_iconst (v := 1) hx hb d_MD_into_174 (by decide) ?_
                        refine lv_iload_n hx hb d_MD_into_175 rfl (lv_at hl 4 rfl) ?_
                        obtain ⟨r281, g_r281, h⟩ := ob_some h
                        refine cl_MD_157 (rest := []) C hD (hml.trans hl.1.symm) hW g_r281 ⟨Nat.le_of_ble_eq_true rfl, Nat.le_of_ble_eq_true rfl⟩ (Nat.le_of_ble_eq_true rfl) d_MD_into_176 ⟨Nat.zero_le _, Nat.zero_le _⟩ (fun H locs hW => ?_)
                        refine lv_iload hx hb d_MD_into_179 (lv_at hl 0 rfl) ?_
                        exact W.iret hx hb hr (fun t ht _ => qr_i h ht hW) hW.2.2.2 d_MD_into_181
                  · rw [if_neg c274] at h
                    refine lv_iconst (v := 3) hx hb d_MD_into_118 (by decide) ?_
                    refine lv_goto (tgt := 164) hx hb d_MD_into_119 (by decide) ?_
                    refine lv_istore (lv' := [(6, .int 3), (5, .int r264), (0, .ref (ad 0)), (1, .int x1), (2, .int x2), (3, .int x3)]) hx hb d_MD_into_164 hl (by decide) rfl (fun ls hl => ?_)
                    refine lv_iload hx hb d_MD_into_166 (lv_at hl 0 rfl) ?_
                    refine lv_if_ne (tgt := 179) hx hb d_MD_into_168 (by decide) (fun c275 => ?_) (fun c275 => ?_)
                    · rw [if_neg c275] at h
                      refine lv_iload hx hb d_MD_into_179 (lv_at hl 0 rfl) ?_
                      exact W.iret hx hb hr (fun t ht _ => qr_i h ht hW) hW.2.2.2 d_MD_into_181
                    · rw [if_pos c275] at h
                      refine lv_aload_n hx hb d_MD_into_171 rfl (lv_at hl 2 rfl) ?_
                      refine lv_iload_n hx hb d_MD_into_172 rfl (lv_at hl 3 rfl) ?_
                      refine lv_iload_n hx hb d_MD_into_173 rfl (lv_at hl 5 rfl) ?_
                      refine lv_iconst (v := 1) hx hb d_MD_into_174 (by decide) ?_
                      refine lv_iload_n hx hb d_MD_into_175 rfl (lv_at hl 4 rfl) ?_
                      obtain ⟨r276, g_r276, h⟩ := ob_some h
                      refine cl_MD_157 (rest := []) C hD (hml.trans hl.1.symm) hW g_r276 ⟨Nat.le_of_ble_eq_true rfl, Nat.le_of_ble_eq_true rfl⟩ (Nat.le_of_ble_eq_true rfl) d_MD_into_176 ⟨Nat.zero_le _, Nat.zero_le _⟩ (fun H locs hW => ?_)
                      refine lv_iload hx hb d_MD_into_179 (lv_at hl 0 rfl) ?_
                      exact W.iret hx hb hr (fun t ht _ => qr_i h ht hW) hW.2.2.2 d_MD_into_181
                · rw [if_pos c271] at h
                  refine lv_iconst (v := 2) hx hb d_MD_into_105 (by decide) ?_
                  refine lv_goto (tgt := 164) hx hb d_MD_into_106 (by decide) ?_
                  refine lv_istore (lv' := [(6, .int 2), (5, .int r264), (0, .ref (ad 0)), (1, .int x1), (2, .int x2), (3, .int x3)]) hx hb d_MD_into_164 hl (by decide) rfl (fun ls hl => ?_)
                  refine lv_iload hx hb d_MD_into_166 (lv_at hl 0 rfl) ?_
                  refine lv_if_ne (tgt := 179) hx hb d_MD_into_168 (by decide) (fun c272 => ?_) (fun c272 => ?_)
                  · rw [if_neg c272] at h
                    refine lv_iload hx hb d_MD_into_179 (lv_at hl 0 rfl) ?_
                    exact W.iret hx hb hr (fun t ht _ => qr_i h ht hW) hW.2.2.2 d_MD_into_181
                  · rw [if_pos c272] at h
                    refine lv_aload_n hx hb d_MD_into_171 rfl (lv_at hl 2 rfl) ?_
                    refine lv_iload_n hx hb d_MD_into_172 rfl (lv_at hl 3 rfl) ?_
                    refine lv_iload_n hx hb d_MD_into_173 rfl (lv_at hl 5 rfl) ?_
                    refine lv_iconst (v := 1) hx hb d_MD_into_174 (by decide) ?_
                    refine lv_iload_n hx hb d_MD_into_175 rfl (lv_at hl 4 rfl) ?_
                    obtain ⟨r273, g_r273, h⟩ := ob_some h
                    refine cl_MD_157 (rest := []) C hD (hml.trans hl.1.symm) hW g_r273 ⟨Nat.le_of_ble_eq_true rfl, Nat.le_of_ble_eq_true rfl⟩ (Nat.le_of_ble_eq_true rfl) d_MD_into_176 ⟨Nat.zero_le _, Nat.zero_le _⟩ (fun H locs hW => ?_)
                    refine lv_iload hx hb d_MD_into_179 (lv_at hl 0 rfl) ?_
                    exact W.iret hx hb hr (fun t ht _ => qr_i h ht hW) hW.2.2.2 d_MD_into_181
              · rw [if_neg c267] at h
                have k92 : ∀ (x1 : Int32) (x2 : Int32) (x3 : Int32) (σ : Sg) (h : C_MD_into_92 x1 x2 x3 σ = some out) (H : Heap) (locs : List Loc) (hW : WR G ad cI cZ s σ H locs) (ls : Array Slot) (hl : lv_has ls 7 [(0, .ref (ad 0)), (1, .int x1), (2, .int x2), (3, .int x3)]), W p l e (headSpec wl_MD_into ({ frames := 5, cells := 0, slots := 0, locals := 122 } : Room)).room s m (([.ref (ad 0), .int a1, .int a2, .int a3] : List Value).toArray) below meth c H locs 0 0 (MQ below (QRi G ad cI cZ out) (([.ref (ad 0), .int a1, .int a2, .int a3] : List Value).toArray) s 0 0 (AR ad)) (F0 m 92 ls []) := by
                  intro x1 x2 x3 σ h H locs hW ls hl
                  unfold C_MD_into_92 at h
                  refine lv_iconst (v := 1) hx hb d_MD_into_92 (by decide) ?_
                  refine lv_goto (tgt := 164) hx hb d_MD_into_93 (by decide) ?_
                  refine lv_istore (lv' := [(6, .int 1), (0, .ref (ad 0)), (1, .int x1), (2, .int x2), (3, .int x3)]) hx hb d_MD_into_164 hl (by decide) rfl (fun ls hl => ?_)
                  refine lv_iload hx hb d_MD_into_166 (lv_at hl 0 rfl) ?_
                  refine lv_if_ne (tgt := 179) hx hb d_MD_into_168 (by decide) (fun c268 => ?_) (fun c268 => ?_)
                  · rw [if_neg c268] at h
                    refine lv_iload hx hb d_MD_into_179 (lv_at hl 0 rfl) ?_
                    exact W.iret hx hb hr (fun t ht _ => qr_i h ht hW) hW.2.2.2 d_MD_into_181
                  · rw [if_pos c268] at h
                    refine lv_aload_n hx hb d_MD_into_171 rfl (lv_at hl 1 rfl) ?_
                    refine lv_iload_n hx hb d_MD_into_172 rfl (lv_at hl 2 rfl) ?_
                    refine lv_iload_n hx hb d_MD_into_173 rfl (lv_at hl 4 rfl) ?_
                    refine lv_iconst (v := 1) hx hb d_MD_into_174 (by decide) ?_
                    refine lv_iload_n hx hb d_MD_into_175 rfl (lv_at hl 3 rfl) ?_
                    obtain ⟨r269, g_r269, h⟩ := ob_some h
                    refine cl_MD_157 (rest := []) C hD (hml.trans hl.1.symm) hW g_r269 ⟨Nat.le_of_ble_eq_true rfl, Nat.le_of_ble_eq_true rfl⟩ (Nat.le_of_ble_eq_true rfl) d_MD_into_176 ⟨Nat.zero_le _, Nat.zero_le _⟩ (fun H locs hW => ?_)
                    refine lv_iload hx hb d_MD_into_179 (lv_at hl 0 rfl) ?_
                    exact W.iret hx hb hr (fun t ht _ => qr_i h ht hW) hW.2.2.2 d_MD_into_181
                exact k92 x1 x2 x3 r262.2 h _ _ hW _ (lv_sub hl [1, 2, 3, 4] rfl)
          · rw [if_pos c263] at h
            refine lv_iconst (v := 0) hx hb d_MD_into_63 (by decide) ?_
            exact W.iret hx hb hr (fun t ht _ => qr_i h ht hW) hW.2.2.2 d_MD_into_64
        exact k57 x1 x2 x3 0 r197 s0 σ h _ _ hW _ (lv_sub hl [1, 2, 3, 4] rfl)
      · rw [if_neg c198] at h
        refine lv_aload_n hx hb d_MD_into_41 rfl (lv_at hl 1 rfl) ?_
        refine gf_MD_32 C hW.1 d_MD_into_42 ?_
        refine lv_iload_n hx hb d_MD_into_45 rfl (lv_at hl 2 rfl) ?_
        obtain ⟨hin, h⟩ := gd_some h
        refine alR_8 C hW.1 hin d_MD_into_46 ?_
        refine lv_bipush (v := 40) hx hb d_MD_into_47 (by decide) ?_
        refine lv_icmp_ge (tgt := 56) hx hb d_MD_into_49 (by decide) (fun c199 => ?_) (fun c199 => ?_)
        · rw [if_pos c199] at h
          refine lv_iconst (v := 0) hx hb d_MD_into_56 (by decide) ?_
          have k57 : ∀ (x1 : Int32) (x2 : Int32) (x3 : Int32) (s0 : Int32) (s1 : Int32) (s2 : Int32) (σ : Sg) (h : C_MD_into_57 x1 x2 x3 s0 s1 s2 σ = some out) (H : Heap) (locs : List Loc) (hW : WR G ad cI cZ s σ H locs) (ls : Array Slot) (hl : lv_has ls 7 [(0, .ref (ad 0)), (1, .int x1), (2, .int x2), (3, .int x3)]), W p l e (headSpec wl_MD_into ({ frames := 5, cells := 0, slots := 0, locals := 122 } : Room)).room s m (([.ref (ad 0), .int a1, .int a2, .int a3] : List Value).toArray) below meth c H locs 0 0 (MQ below (QRi G ad cI cZ out) (([.ref (ad 0), .int a1, .int a2, .int a3] : List Value).toArray) s 0 0 (AR ad)) (F0 m 57 ls [.int s0, .int s1, .int s2, .ref (ad 0)]) := by
            intro x1 x2 x3 s0 s1 s2 σ h H locs hW ls hl
            unfold C_MD_into_57 at h
            obtain ⟨r231, g_r231, h⟩ := ob_some h
            refine cl_MD_102 (rest := []) C hD (hml.trans hl.1.symm) hW g_r231 ⟨Nat.le_of_ble_eq_true rfl, Nat.le_of_ble_eq_true rfl⟩ (Nat.le_of_ble_eq_true rfl) d_MD_into_57 ⟨Nat.zero_le _, Nat.zero_le _⟩ (fun H locs hW => ?_)
            refine lv_if_ne (tgt := 65) hx hb d_MD_into_60 (by decide) (fun c232 => ?_) (fun c232 => ?_)
            · rw [if_neg c232] at h
              refine lv_aload_n hx hb d_MD_into_65 rfl (lv_at hl 0 rfl) ?_
              refine lv_iload_n hx hb d_MD_into_66 rfl (lv_at hl 2 rfl) ?_
              refine lv_iload_n hx hb d_MD_into_67 rfl (lv_at hl 3 rfl) ?_
              obtain ⟨r233, g_r233, h⟩ := ob_some h
              refine cl_MD_130 (rest := []) C (hml.trans hl.1.symm) hW.1 g_r233 ⟨Nat.le_of_ble_eq_true rfl, Nat.le_of_ble_eq_true rfl⟩ (Nat.le_of_ble_eq_true rfl) d_MD_into_68 ⟨Nat.zero_le _, Nat.zero_le _⟩ ?_
              refine lv_istore (lv' := [(5, .int r233), (0, .ref (ad 0)), (1, .int x1), (2, .int x2), (3, .int x3)]) hx hb d_MD_into_71 hl (by decide) rfl (fun ls hl => ?_)
              refine lv_aload_n hx hb d_MD_into_73 rfl (lv_at hl 1 rfl) ?_
              refine gf_MD_25 C hW.1 d_MD_into_74 ?_
              refine lv_iload_n hx hb d_MD_into_77 rfl (lv_at hl 3 rfl) ?_
              obtain ⟨hin, h⟩ := gd_some h
              refine alR_6 C hW.1 hin d_MD_into_78 ?_
              refine lv_if_eq (tgt := 92) hx hb d_MD_into_79 (by decide) (fun c234 => ?_) (fun c234 => ?_)
              · rw [if_pos c234] at h
                have k92 : ∀ (x1 : Int32) (x2 : Int32) (x3 : Int32) (σ : Sg) (h : C_MD_into_92 x1 x2 x3 σ = some out) (H : Heap) (locs : List Loc) (hW : WR G ad cI cZ s σ H locs) (ls : Array Slot) (hl : lv_has ls 7 [(0, .ref (ad 0)), (1, .int x1), (2, .int x2), (3, .int x3)]), W p l e (headSpec wl_MD_into ({ frames := 5, cells := 0, slots := 0, locals := 122 } : Room)).room s m (([.ref (ad 0), .int a1, .int a2, .int a3] : List Value).toArray) below meth c H locs 0 0 (MQ below (QRi G ad cI cZ out) (([.ref (ad 0), .int a1, .int a2, .int a3] : List Value).toArray) s 0 0 (AR ad)) (F0 m 92 ls []) := by
                  intro x1 x2 x3 σ h H locs hW ls hl
                  unfold C_MD_into_92 at h
                  refine lv_iconst (v := 1) hx hb d_MD_into_92 (by decide) ?_
                  refine lv_goto (tgt := 164) hx hb d_MD_into_93 (by decide) ?_
                  refine lv_istore (lv' := [(6, .int 1), (0, .ref (ad 0)), (1, .int x1), (2, .int x2), (3, .int x3)]) hx hb d_MD_into_164 hl (by decide) rfl (fun ls hl => ?_)
                  refine lv_iload hx hb d_MD_into_166 (lv_at hl 0 rfl) ?_
                  refine lv_if_ne (tgt := 179) hx hb d_MD_into_168 (by decide) (fun c260 => ?_) (fun c260 => ?_)
                  · rw [if_neg c260] at h
                    refine lv_iload hx hb d_MD_into_179 (lv_at hl 0 rfl) ?_
                    exact W.iret hx hb hr (fun t ht _ => qr_i h ht hW) hW.2.2.2 d_MD_into_181
                  · rw [if_pos c260] at h
                    refine lv_aload_n hx hb d_MD_into_171 rfl (lv_at hl 1 rfl) ?_
                    refine lv_iload_n hx hb d_MD_into_172 rfl (lv_at hl 2 rfl) ?_
                    refine lv_iload_n hx hb d_MD_into_173 rfl (lv_at hl 4 rfl) ?_
                    refine lv_iconst (v := 1) hx hb d_MD_into_174 (by decide) ?_
                    refine lv_iload_n hx hb d_MD_into_175 rfl (lv_at hl 3 rfl) ?_
                    obtain ⟨r261, g_r261, h⟩ := ob_some h
                    refine cl_MD_157 (rest := []) C hD (hml.trans hl.1.symm) hW g_r261 ⟨Nat.le_of_ble_eq_true rfl, Nat.le_of_ble_eq_true rfl⟩ (Nat.le_of_ble_eq_true rfl) d_MD_into_176 ⟨Nat.zero_le _, Nat.zero_le _⟩ (fun H locs hW => ?_)
                    refine lv_iload hx hb d_MD_into_179 (lv_at hl 0 rfl) ?_
                    exact W.iret hx hb hr (fun t ht _ => qr_i h ht hW) hW.2.2.2 d_MD_into_181
                exact k92 x1 x2 x3 r231.2 h _ _ hW _ (lv_sub hl [1, 2, 3, 4] rfl)
              · rw [if_neg c234] at h
                refine lv_aload_n hx hb d_MD_into_82 rfl (lv_at hl 1 rfl) ?_
                refine lv_iload_n hx hb d_MD_into_83 rfl (lv_at hl 2 rfl) ?_
                refine lv_iload_n hx hb d_MD_into_84 rfl (lv_at hl 3 rfl) ?_
                refine lv_iload_n hx hb d_MD_into_85 rfl (lv_at hl 4 rfl) ?_
                obtain ⟨r235, g_r235, h⟩ := ob_some h
                refine cl_MD_164 (rest := []) C (hml.trans hl.1.symm) hW.1 g_r235 ⟨Nat.le_of_ble_eq_true rfl, Nat.le_of_ble_eq_true rfl⟩ (Nat.le_of_ble_eq_true rfl) d_MD_into_86 ⟨Nat.zero_le _, Nat.zero_le _⟩ ?_
                refine lv_if_eq (tgt := 96) hx hb d_MD_into_89 (by decide) (fun c236 => ?_) (fun c236 => ?_)
                · rw [if_pos c236] at h
                  refine lv_aload_n hx hb d_MD_into_96 rfl (lv_at hl 1 rfl) ?_
                  refine lv_iload_n hx hb d_MD_into_97 rfl (lv_at hl 2 rfl) ?_
                  refine lv_iload_n hx hb d_MD_into_98 rfl (lv_at hl 3 rfl) ?_
                  obtain ⟨r239, g_r239, h⟩ := ob_some h
                  refine cl_MD_167 (rest := []) C (hml.trans hl.1.symm) hW.1 g_r239 ⟨Nat.le_of_ble_eq_true rfl, Nat.le_of_ble_eq_true rfl⟩ (Nat.le_of_ble_eq_true rfl) d_MD_into_99 ⟨Nat.zero_le _, Nat.zero_le _⟩ ?_
                  refine lv_if_ne (tgt := 109) hx hb d_MD_into_102 (by decide) (fun c240 => ?_) (fun c240 => ?_)
                  · rw [if_neg c240] at h
                    refine lv_aload_n hx hb d_MD_into_109 rfl (lv_at hl 1 rfl) ?_
                    refine gf_MD_22 C hW.1 d_MD_into_110 ?_
                    refine lv_iload_n hx hb d_MD_into_113 rfl (lv_at hl 2 rfl) ?_
                    obtain ⟨hin, h⟩ := gd_some h
                    refine alR_5 C hW.1 hin d_MD_into_114 ?_
                    refine lv_if_le (tgt := 122) hx hb d_MD_into_115 (by decide) (fun c243 => ?_) (fun c243 => ?_)
                    · rw [if_pos c243] at h
                      refine lv_aload_n hx hb d_MD_into_122 rfl (lv_at hl 1 rfl) ?_
                      refine lv_aload_n hx hb d_MD_into_123 rfl (lv_at hl 1 rfl) ?_
                      refine lv_iload_n hx hb d_MD_into_124 rfl (lv_at hl 2 rfl) ?_
                      refine lv_iload_n hx hb d_MD_into_125 rfl (lv_at hl 4 rfl) ?_
                      obtain ⟨r246, g_r246, h⟩ := ob_some h
                      refine cl_MD_130 (rest := [.ref (ad 0)]) C (hml.trans hl.1.symm) hW.1 g_r246 ⟨Nat.le_of_ble_eq_true rfl, Nat.le_of_ble_eq_true rfl⟩ (Nat.le_of_ble_eq_true rfl) d_MD_into_126 ⟨Nat.zero_le _, Nat.zero_le _⟩ ?_
                      refine lv_iload hx hb d_MD_into_129 (lv_at hl 0 rfl) ?_
                      refine lv_iload_n hx hb d_MD_into_131 rfl (lv_at hl 4 rfl) ?_
                      obtain ⟨r247, g_r247, h⟩ := ob_some h
                      refine cl_MD_151 (rest := []) C (hml.trans hl.1.symm) hW.1 g_r247 ⟨Nat.le_of_ble_eq_true rfl, Nat.le_of_ble_eq_true rfl⟩ (Nat.le_of_ble_eq_true rfl) d_MD_into_132 ⟨Nat.zero_le _, Nat.zero_le _⟩ ?_
                      refine lv_if_eq (tgt := 142) hx hb d_MD_into_135 (by decide) (fun c248 => ?_) (fun c248 => ?_)
                      · rw [if_pos c248] at h
                        refine lv_iload hx hb d_MD_into_142 (lv_at hl 0 rfl) ?_
                        refine lv_iconst (v := (-1)) hx hb d_MD_into_144 (by decide) ?_
                        refine lv_icmp_eq (tgt := 163) hx hb d_MD_into_145 (by decide) (fun c251 => ?_) (fun c251 => ?_)
                        · rw [if_pos c251] at h
                          refine lv_iconst (v := 0) hx hb d_MD_into_163 (by decide) ?_
                          refine lv_istore (lv' := [(6, .int 0), (5, .int r233), (0, .ref (ad 0)), (1, .int x1), (2, .int x2), (3, .int x3)]) hx hb d_MD_into_164 hl (by decide) rfl (fun ls hl => ?_)
                          refine lv_iload hx hb d_MD_into_166 (lv_at hl 0 rfl) ?_
                          refine lv_if_ne (tgt := 179) hx hb d_MD_into_168 (by decide) (fun c258 => ?_) (fun c258 => ?_)
                          · rw [if_neg c258] at h
                            refine lv_iload hx hb d_MD_into_179 (lv_at hl 0 rfl) ?_
                            exact W.iret hx hb hr (fun t ht _ => qr_i h ht hW) hW.2.2.2 d_MD_into_181
                          · rw [if_pos c258] at h
                            refine lv_aload_n hx hb d_MD_into_171 rfl (lv_at hl 2 rfl) ?_
                            refine lv_iload_n hx hb d_MD_into_172 rfl (lv_at hl 3 rfl) ?_
                            refine lv_iload_n hx hb d_MD_into_173 rfl (lv_at hl 5 rfl) ?_
                            refine lv_iconst (v := 1) hx hb d_MD_into_174 (by decide) ?_
                            refine lv_iload_n hx hb d_MD_into_175 rfl (lv_at hl 4 rfl) ?_
                            obtain ⟨r259, g_r259, h⟩ := ob_some h
                            refine cl_MD_157 (rest := []) C hD (hml.trans hl.1.symm) hW g_r259 ⟨Nat.le_of_ble_eq_true rfl, Nat.le_of_ble_eq_true rfl⟩ (Nat.le_of_ble_eq_true rfl) d_MD_into_176 ⟨Nat.zero_le _, Nat.zero_le _⟩ (fun H locs hW => ?_)
                            refine lv_iload hx hb d_MD_into_179 (lv_at hl 0 rfl) ?_
                            exact W.iret hx hb hr (fun t ht _ => qr_i h ht hW) hW.2.2.2 d_MD_into_181
                        · rw [if_neg c251] at h
                          refine lv_aload_n hx hb d_MD_into_148 rfl (lv_at hl 1 rfl) ?_
                          refine lv_iload_n hx hb d_MD_into_149 rfl (lv_at hl 2 rfl) ?_
                          refine lv_iload hx hb d_MD_into_150 (lv_at hl 0 rfl) ?_
                          refine lv_iload_n hx hb d_MD_into_152 rfl (lv_at hl 4 rfl) ?_
                          obtain ⟨r252, g_r252, h⟩ := ob_some h
                          refine cl_MD_154 (rest := []) C hD (hml.trans hl.1.symm) hW g_r252 ⟨Nat.le_of_ble_eq_true rfl, Nat.le_of_ble_eq_true rfl⟩ (Nat.le_of_ble_eq_true rfl) d_MD_into_153 ⟨Nat.zero_le _, Nat.zero_le _⟩ (fun H locs hW => ?_)
                          refine lv_if_ne (tgt := 163) hx hb d_MD_into_156 (by decide) (fun c253 => ?_) (fun c253 => ?_)
                          · rw [if_neg c253] at h
                            refine lv_iconst (v := 0) hx hb d_MD_into_163 (by decide) ?_
                            refine lv_istore (lv' := [(6, .int 0), (5, .int r233), (0, .ref (ad 0)), (1, .int x1), (2, .int x2), (3, .int x3)]) hx hb d_MD_into_164 hl (by decide) rfl (fun ls hl => ?_)
                            refine lv_iload hx hb d_MD_into_166 (lv_at hl 0 rfl) ?_
                            refine lv_if_ne (tgt := 179) hx hb d_MD_into_168 (by decide) (fun c256 => ?_) (fun c256 => ?_)
                            · rw [if_neg c256] at h
                              refine lv_iload hx hb d_MD_into_179 (lv_at hl 0 rfl) ?_
                              exact W.iret hx hb hr (fun t ht _ => qr_i h ht hW) hW.2.2.2 d_MD_into_181
                            · rw [if_pos c256] at h
                              refine lv_aload_n hx hb d_MD_into_171 rfl (lv_at hl 2 rfl) ?_
                              refine lv_iload_n hx hb d_MD_into_172 rfl (lv_at hl 3 rfl) ?_
                              refine lv_iload_n hx hb d_MD_into_173 rfl (lv_at hl 5 rfl) ?_
                              refine lv_iconst (v := 1) hx hb d_MD_into_174 (by decide) ?_
                              refine lv_iload_n hx hb d_MD_into_175 rfl (lv_at hl 4 rfl) ?_
                              obtain ⟨r257, g_r257, h⟩ := ob_some h
                              refine cl_MD_157 (rest := []) C hD (hml.trans hl.1.symm) hW g_r257 ⟨Nat.le_of_ble_eq_true rfl, Nat.le_of_ble_eq_true rfl⟩ (Nat.le_of_ble_eq_true rfl) d_MD_into_176 ⟨Nat.zero_le _, Nat.zero_le _⟩ (fun H locs hW => ?_)
                              refine lv_iload hx hb d_MD_into_179 (lv_at hl 0 rfl) ?_
                              exact W.iret hx hb hr (fun t ht _ => qr_i h ht hW) hW.2.2.2 d_MD_into_181
                          · rw [if_pos c253] at h
                            refine lv_iconst (v := 5) hx hb d_MD_into_159 (by decide) ?_
                            refine lv_goto (tgt := 164) hx hb d_MD_into_160 (by decide) ?_
                            refine lv_istore (lv' := [(6, .int 5), (5, .int r233), (0, .ref (ad 0)), (1, .int x1), (2, .int x2), (3, .int x3)]) hx hb d_MD_into_164 hl (by decide) rfl (fun ls hl => ?_)
                            refine lv_iload hx hb d_MD_into_166 (lv_at hl 0 rfl) ?_
                            refine lv_if_ne (tgt := 179) hx hb d_MD_into_168 (by decide) (fun c254 => ?_) (fun c254 => ?_)
                            · rw [if_neg c254] at h
                              refine lv_iload hx hb d_MD_into_179 (lv_at hl 0 rfl) ?_
                              exact W.iret hx hb hr (fun t ht _ => qr_i h ht hW) hW.2.2.2 d_MD_into_181
                            · rw [if_pos c254] at h
                              refine lv_aload_n hx hb d_MD_into_171 rfl (lv_at hl 2 rfl) ?_
                              refine lv_iload_n hx hb d_MD_into_172 rfl (lv_at hl 3 rfl) ?_
                              refine lv_iload_n hx hb d_MD_into_173 rfl (lv_at hl 5 rfl) ?_
                              refine lv_iconst (v := 1) hx hb d_MD_into_174 (by decide) ?_
                              refine lv_iload_n hx hb d_MD_into_175 rfl (lv_at hl 4 rfl) ?_
                              obtain ⟨r255, g_r255, h⟩ := ob_some h
                              refine cl_MD_157 (rest := []) C hD (hml.trans hl.1.symm) hW g_r255 ⟨Nat.le_of_ble_eq_true rfl, Nat.le_of_ble_eq_true rfl⟩ (Nat.le_of_ble_eq_true rfl) d_MD_into_176 ⟨Nat.zero_le _, Nat.zero_le _⟩ (fun H locs hW => ?_)
                              refine lv_iload hx hb d_MD_into_179 (lv_at hl 0 rfl) ?_
                              exact W.iret hx hb hr (fun t ht _ => qr_i h ht hW) hW.2.2.2 d_MD_into_181
                      · rw [if_neg c248] at h
                        refine lv_iconst (v := 4) hx hb d_MD_into_138 (by decide) ?_
                        refine lv_goto (tgt := 164) hx hb d_MD_into_139 (by decide) ?_
                        refine lv_istore (lv' := [(6, .int 4), (5, .int r233), (0, .ref (ad 0)), (1, .int x1), (2, .int x2), (3, .int x3)]) hx hb d_MD_into_164 hl (by decide) rfl (fun ls hl => ?_)
                        refine lv_iload hx hb d_MD_into_166 (lv_at hl 0 rfl) ?_
                        refine lv_if_ne (tgt := 179) hx hb d_MD_into_168 (by decide) (fun c249 => ?_) (fun c249 => ?_)
                        · rw [if_neg c249] at h
                          refine lv_iload hx hb d_MD_into_179 (lv_at hl 0 rfl) ?_
                          exact W.iret hx hb hr (fun t ht _ => qr_i h ht hW) hW.2.2.2 d_MD_into_181
                        · rw [if_pos c249] at h
                          refine lv_aload_n hx hb d_MD_into_171 rfl (lv_at hl 2 rfl) ?_
                          refine lv_iload_n hx hb d_MD_into_172 rfl (lv_at hl 3 rfl) ?_
                          refine lv_iload_n hx hb d_MD_into_173 rfl (lv_at hl 5 rfl) ?_
                          refine lv_iconst (v := 1) hx hb d_MD_into_174 (by decide) ?_
                          refine lv_iload_n hx hb d_MD_into_175 rfl (lv_at hl 4 rfl) ?_
                          obtain ⟨r250, g_r250, h⟩ := ob_some h
                          refine cl_MD_157 (rest := []) C hD (hml.trans hl.1.symm) hW g_r250 ⟨Nat.le_of_ble_eq_true rfl, Nat.le_of_ble_eq_true rfl⟩ (Nat.le_of_ble_eq_true rfl) d_MD_into_176 ⟨Nat.zero_le _, Nat.zero_le _⟩ (fun H locs hW => ?_)
                          refine lv_iload hx hb d_MD_into_179 (lv_at hl 0 rfl) ?_
                          exact W.iret hx hb hr (fun t ht _ => qr_i h ht hW) hW.2.2.2 d_MD_into_181
                    · rw [if_neg c243] at h
                      refine lv_iconst (v := 3) hx hb d_MD_into_118 (by decide) ?_
                      refine lv_goto (tgt := 164) hx hb d_MD_into_119 (by decide) ?_
                      refine lv_istore (lv' := [(6, .int 3), (5, .int r233), (0, .ref (ad 0)), (1, .int x1), (2, .int x2), (3, .int x3)]) hx hb d_MD_into_164 hl (by decide) rfl (fun ls hl => ?_)
                      refine lv_iload hx hb d_MD_into_166 (lv_at hl 0 rfl) ?_
                      refine lv_if_ne (tgt := 179) hx hb d_MD_into_168 (by decide) (fun c244 => ?_) (fun c244 => ?_)
                      · rw [if_neg c244] at h
                        refine lv_iload hx hb d_MD_into_179 (lv_at hl 0 rfl) ?_
                        exact W.iret hx hb hr (fun t ht _ => qr_i h ht hW) hW.2.2.2 d_MD_into_181
                      · rw [if_pos c244] at h
                        refine lv_aload_n hx hb d_MD_into_171 rfl (lv_at hl 2 rfl) ?_
                        refine lv_iload_n hx hb d_MD_into_172 rfl (lv_at hl 3 rfl) ?_
                        refine lv_iload_n hx hb d_MD_into_173 rfl (lv_at hl 5 rfl) ?_
                        refine lv_iconst (v := 1) hx hb d_MD_into_174 (by decide) ?_
                        refine lv_iload_n hx hb d_MD_into_175 rfl (lv_at hl 4 rfl) ?_
                        obtain ⟨r245, g_r245, h⟩ := ob_some h
                        refine cl_MD_157 (rest := []) C hD (hml.trans hl.1.symm) hW g_r245 ⟨Nat.le_of_ble_eq_true rfl, Nat.le_of_ble_eq_true rfl⟩ (Nat.le_of_ble_eq_true rfl) d_MD_into_176 ⟨Nat.zero_le _, Nat.zero_le _⟩ (fun H locs hW => ?_)
                        refine lv_iload hx hb d_MD_into_179 (lv_at hl 0 rfl) ?_
                        exact W.iret hx hb hr (fun t ht _ => qr_i h ht hW) hW.2.2.2 d_MD_into_181
                  · rw [if_pos c240] at h
                    refine lv_iconst (v := 2) hx hb d_MD_into_105 (by decide) ?_
                    refine lv_goto (tgt := 164) hx hb d_MD_into_106 (by decide) ?_
                    refine lv_istore (lv' := [(6, .int 2), (5, .int r233), (0, .ref (ad 0)), (1, .int x1), (2, .int x2), (3, .int x3)]) hx hb d_MD_into_164 hl (by decide) rfl (fun ls hl => ?_)
                    refine lv_iload hx hb d_MD_into_166 (lv_at hl 0 rfl) ?_
                    refine lv_if_ne (tgt := 179) hx hb d_MD_into_168 (by decide) (fun c241 => ?_) (fun c241 => ?_)
                    · rw [if_neg c241] at h
                      refine lv_iload hx hb d_MD_into_179 (lv_at hl 0 rfl) ?_
                      exact W.iret hx hb hr (fun t ht _ => qr_i h ht hW) hW.2.2.2 d_MD_into_181
                    · rw [if_pos c241] at h
                      refine lv_aload_n hx hb d_MD_into_171 rfl (lv_at hl 2 rfl) ?_
                      refine lv_iload_n hx hb d_MD_into_172 rfl (lv_at hl 3 rfl) ?_
                      refine lv_iload_n hx hb d_MD_into_173 rfl (lv_at hl 5 rfl) ?_
                      refine lv_iconst (v := 1) hx hb d_MD_into_174 (by decide) ?_
                      refine lv_iload_n hx hb d_MD_into_175 rfl (lv_at hl 4 rfl) ?_
                      obtain ⟨r242, g_r242, h⟩ := ob_some h
                      refine cl_MD_157 (rest := []) C hD (hml.trans hl.1.symm) hW g_r242 ⟨Nat.le_of_ble_eq_true rfl, Nat.le_of_ble_eq_true rfl⟩ (Nat.le_of_ble_eq_true rfl) d_MD_into_176 ⟨Nat.zero_le _, Nat.zero_le _⟩ (fun H locs hW => ?_)
                      refine lv_iload hx hb d_MD_into_179 (lv_at hl 0 rfl) ?_
                      exact W.iret hx hb hr (fun t ht _ => qr_i h ht hW) hW.2.2.2 d_MD_into_181
                · rw [if_neg c236] at h
                  have k92 : ∀ (x1 : Int32) (x2 : Int32) (x3 : Int32) (σ : Sg) (h : C_MD_into_92 x1 x2 x3 σ = some out) (H : Heap) (locs : List Loc) (hW : WR G ad cI cZ s σ H locs) (ls : Array Slot) (hl : lv_has ls 7 [(0, .ref (ad 0)), (1, .int x1), (2, .int x2), (3, .int x3)]), W p l e (headSpec wl_MD_into ({ frames := 5, cells := 0, slots := 0, locals := 122 } : Room)).room s m (([.ref (ad 0), .int a1, .int a2, .int a3] : List Value).toArray) below meth c H locs 0 0 (MQ below (QRi G ad cI cZ out) (([.ref (ad 0), .int a1, .int a2, .int a3] : List Value).toArray) s 0 0 (AR ad)) (F0 m 92 ls []) := by
                    intro x1 x2 x3 σ h H locs hW ls hl
                    unfold C_MD_into_92 at h
                    refine lv_iconst (v := 1) hx hb d_MD_into_92 (by decide) ?_
                    refine lv_goto (tgt := 164) hx hb d_MD_into_93 (by decide) ?_
                    refine lv_istore (lv' := [(6, .int 1), (0, .ref (ad 0)), (1, .int x1), (2, .int x2), (3, .int x3)]) hx hb d_MD_into_164 hl (by decide) rfl (fun ls hl => ?_)
                    refine lv_iload hx hb d_MD_into_166 (lv_at hl 0 rfl) ?_
                    refine lv_if_ne (tgt := 179) hx hb d_MD_into_168 (by decide) (fun c237 => ?_) (fun c237 => ?_)
                    · rw [if_neg c237] at h
                      refine lv_iload hx hb d_MD_into_179 (lv_at hl 0 rfl) ?_
                      exact W.iret hx hb hr (fun t ht _ => qr_i h ht hW) hW.2.2.2 d_MD_into_181
                    · rw [if_pos c237] at h
                      refine lv_aload_n hx hb d_MD_into_171 rfl (lv_at hl 1 rfl) ?_
                      refine lv_iload_n hx hb d_MD_into_172 rfl (lv_at hl 2 rfl) ?_
                      refine lv_iload_n hx hb d_MD_into_173 rfl (lv_at hl 4 rfl) ?_
                      refine lv_iconst (v := 1) hx hb d_MD_into_174 (by decide) ?_
                      refine lv_iload_n hx hb d_MD_into_175 rfl (lv_at hl 3 rfl) ?_
                      obtain ⟨r238, g_r238, h⟩ := ob_some h
                      refine cl_MD_157 (rest := []) C hD (hml.trans hl.1.symm) hW g_r238 ⟨Nat.le_of_ble_eq_true rfl, Nat.le_of_ble_eq_true rfl⟩ (Nat.le_of_ble_eq_true rfl) d_MD_into_176 ⟨Nat.zero_le _, Nat.zero_le _⟩ (fun H locs hW => ?_)
                      refine lv_iload hx hb d_MD_into_179 (lv_at hl 0 rfl) ?_
                      exact W.iret hx hb hr (fun t ht _ => qr_i h ht hW) hW.2.2.2 d_MD_into_181
                  exact k92 x1 x2 x3 r231.2 h _ _ hW _ (lv_sub hl [1, 2, 3, 4] rfl)
            · rw [if_pos c232] at h
              refine lv_iconst (v := 0) hx hb d_MD_into_63 (by decide) ?_
              exact W.iret hx hb hr (fun t ht _ => qr_i h ht hW) hW.2.2.2 d_MD_into_64
          exact k57 x1 x2 x3 0 r197 s0 σ h _ _ hW _ (lv_sub hl [1, 2, 3, 4] rfl)
        · rw [if_neg c199] at h
          refine lv_iconst (v := 1) hx hb d_MD_into_52 (by decide) ?_
          refine lv_goto (tgt := 57) hx hb d_MD_into_53 (by decide) ?_
          have k57 : ∀ (x1 : Int32) (x2 : Int32) (x3 : Int32) (s0 : Int32) (s1 : Int32) (s2 : Int32) (σ : Sg) (h : C_MD_into_57 x1 x2 x3 s0 s1 s2 σ = some out) (H : Heap) (locs : List Loc) (hW : WR G ad cI cZ s σ H locs) (ls : Array Slot) (hl : lv_has ls 7 [(0, .ref (ad 0)), (1, .int x1), (2, .int x2), (3, .int x3)]), W p l e (headSpec wl_MD_into ({ frames := 5, cells := 0, slots := 0, locals := 122 } : Room)).room s m (([.ref (ad 0), .int a1, .int a2, .int a3] : List Value).toArray) below meth c H locs 0 0 (MQ below (QRi G ad cI cZ out) (([.ref (ad 0), .int a1, .int a2, .int a3] : List Value).toArray) s 0 0 (AR ad)) (F0 m 57 ls [.int s0, .int s1, .int s2, .ref (ad 0)]) := by
            intro x1 x2 x3 s0 s1 s2 σ h H locs hW ls hl
            unfold C_MD_into_57 at h
            obtain ⟨r200, g_r200, h⟩ := ob_some h
            refine cl_MD_102 (rest := []) C hD (hml.trans hl.1.symm) hW g_r200 ⟨Nat.le_of_ble_eq_true rfl, Nat.le_of_ble_eq_true rfl⟩ (Nat.le_of_ble_eq_true rfl) d_MD_into_57 ⟨Nat.zero_le _, Nat.zero_le _⟩ (fun H locs hW => ?_)
            refine lv_if_ne (tgt := 65) hx hb d_MD_into_60 (by decide) (fun c201 => ?_) (fun c201 => ?_)
            · rw [if_neg c201] at h
              refine lv_aload_n hx hb d_MD_into_65 rfl (lv_at hl 0 rfl) ?_
              refine lv_iload_n hx hb d_MD_into_66 rfl (lv_at hl 2 rfl) ?_
              refine lv_iload_n hx hb d_MD_into_67 rfl (lv_at hl 3 rfl) ?_
              obtain ⟨r202, g_r202, h⟩ := ob_some h
              refine cl_MD_130 (rest := []) C (hml.trans hl.1.symm) hW.1 g_r202 ⟨Nat.le_of_ble_eq_true rfl, Nat.le_of_ble_eq_true rfl⟩ (Nat.le_of_ble_eq_true rfl) d_MD_into_68 ⟨Nat.zero_le _, Nat.zero_le _⟩ ?_
              refine lv_istore (lv' := [(5, .int r202), (0, .ref (ad 0)), (1, .int x1), (2, .int x2), (3, .int x3)]) hx hb d_MD_into_71 hl (by decide) rfl (fun ls hl => ?_)
              refine lv_aload_n hx hb d_MD_into_73 rfl (lv_at hl 1 rfl) ?_
              refine gf_MD_25 C hW.1 d_MD_into_74 ?_
              refine lv_iload_n hx hb d_MD_into_77 rfl (lv_at hl 3 rfl) ?_
              obtain ⟨hin, h⟩ := gd_some h
              refine alR_6 C hW.1 hin d_MD_into_78 ?_
              refine lv_if_eq (tgt := 92) hx hb d_MD_into_79 (by decide) (fun c203 => ?_) (fun c203 => ?_)
              · rw [if_pos c203] at h
                have k92 : ∀ (x1 : Int32) (x2 : Int32) (x3 : Int32) (σ : Sg) (h : C_MD_into_92 x1 x2 x3 σ = some out) (H : Heap) (locs : List Loc) (hW : WR G ad cI cZ s σ H locs) (ls : Array Slot) (hl : lv_has ls 7 [(0, .ref (ad 0)), (1, .int x1), (2, .int x2), (3, .int x3)]), W p l e (headSpec wl_MD_into ({ frames := 5, cells := 0, slots := 0, locals := 122 } : Room)).room s m (([.ref (ad 0), .int a1, .int a2, .int a3] : List Value).toArray) below meth c H locs 0 0 (MQ below (QRi G ad cI cZ out) (([.ref (ad 0), .int a1, .int a2, .int a3] : List Value).toArray) s 0 0 (AR ad)) (F0 m 92 ls []) := by
                  intro x1 x2 x3 σ h H locs hW ls hl
                  unfold C_MD_into_92 at h
                  refine lv_iconst (v := 1) hx hb d_MD_into_92 (by decide) ?_
                  refine lv_goto (tgt := 164) hx hb d_MD_into_93 (by decide) ?_
                  refine lv_istore (lv' := [(6, .int 1), (0, .ref (ad 0)), (1, .int x1), (2, .int x2), (3, .int x3)]) hx hb d_MD_into_164 hl (by decide) rfl (fun ls hl => ?_)
                  refine lv_iload hx hb d_MD_into_166 (lv_at hl 0 rfl) ?_
                  refine lv_if_ne (tgt := 179) hx hb d_MD_into_168 (by decide) (fun c229 => ?_) (fun c229 => ?_)
                  · rw [if_neg c229] at h
                    refine lv_iload hx hb d_MD_into_179 (lv_at hl 0 rfl) ?_
                    exact W.iret hx hb hr (fun t ht _ => qr_i h ht hW) hW.2.2.2 d_MD_into_181
                  · rw [if_pos c229] at h
                    refine lv_aload_n hx hb d_MD_into_171 rfl (lv_at hl 1 rfl) ?_
                    refine lv_iload_n hx hb d_MD_into_172 rfl (lv_at hl 2 rfl) ?_
                    refine lv_iload_n hx hb d_MD_into_173 rfl (lv_at hl 4 rfl) ?_
                    refine lv_iconst (v := 1) hx hb d_MD_into_174 (by decide) ?_
                    refine lv_iload_n hx hb d_MD_into_175 rfl (lv_at hl 3 rfl) ?_
                    obtain ⟨r230, g_r230, h⟩ := ob_some h
                    refine cl_MD_157 (rest := []) C hD (hml.trans hl.1.symm) hW g_r230 ⟨Nat.le_of_ble_eq_true rfl, Nat.le_of_ble_eq_true rfl⟩ (Nat.le_of_ble_eq_true rfl) d_MD_into_176 ⟨Nat.zero_le _, Nat.zero_le _⟩ (fun H locs hW => ?_)
                    refine lv_iload hx hb d_MD_into_179 (lv_at hl 0 rfl) ?_
                    exact W.iret hx hb hr (fun t ht _ => qr_i h ht hW) hW.2.2.2 d_MD_into_181
                exact k92 x1 x2 x3 r200.2 h _ _ hW _ (lv_sub hl [1, 2, 3, 4] rfl)
              · rw [if_neg c203] at h
                refine lv_aload_n hx hb d_MD_into_82 rfl (lv_at hl 1 rfl) ?_
                refine lv_iload_n hx hb d_MD_into_83 rfl (lv_at hl 2 rfl) ?_
                refine lv_iload_n hx hb d_MD_into_84 rfl (lv_at hl 3 rfl) ?_
                refine lv_iload_n hx hb d_MD_into_85 rfl (lv_at hl 4 rfl) ?_
                obtain ⟨r204, g_r204, h⟩ := ob_some h
                refine cl_MD_164 (rest := []) C (hml.trans hl.1.symm) hW.1 g_r204 ⟨Nat.le_of_ble_eq_true rfl, Nat.le_of_ble_eq_true rfl⟩ (Nat.le_of_ble_eq_true rfl) d_MD_into_86 ⟨Nat.zero_le _, Nat.zero_le _⟩ ?_
                refine lv_if_eq (tgt := 96) hx hb d_MD_into_89 (by decide) (fun c205 => ?_) (fun c205 => ?_)
                · rw [if_pos c205] at h
                  refine lv_aload_n hx hb d_MD_into_96 rfl (lv_at hl 1 rfl) ?_
                  refine lv_iload_n hx hb d_MD_into_97 rfl (lv_at hl 2 rfl) ?_
                  refine lv_iload_n hx hb d_MD_into_98 rfl (lv_at hl 3 rfl) ?_
                  obtain ⟨r208, g_r208, h⟩ := ob_some h
                  refine cl_MD_167 (rest := []) C (hml.trans hl.1.symm) hW.1 g_r208 ⟨Nat.le_of_ble_eq_true rfl, Nat.le_of_ble_eq_true rfl⟩ (Nat.le_of_ble_eq_true rfl) d_MD_into_99 ⟨Nat.zero_le _, Nat.zero_le _⟩ ?_
                  refine lv_if_ne (tgt := 109) hx hb d_MD_into_102 (by decide) (fun c209 => ?_) (fun c209 => ?_)
                  · rw [if_neg c209] at h
                    refine lv_aload_n hx hb d_MD_into_109 rfl (lv_at hl 1 rfl) ?_
                    refine gf_MD_22 C hW.1 d_MD_into_110 ?_
                    refine lv_iload_n hx hb d_MD_into_113 rfl (lv_at hl 2 rfl) ?_
                    obtain ⟨hin, h⟩ := gd_some h
                    refine alR_5 C hW.1 hin d_MD_into_114 ?_
                    refine lv_if_le (tgt := 122) hx hb d_MD_into_115 (by decide) (fun c212 => ?_) (fun c212 => ?_)
                    · rw [if_pos c212] at h
                      refine lv_aload_n hx hb d_MD_into_122 rfl (lv_at hl 1 rfl) ?_
                      refine lv_aload_n hx hb d_MD_into_123 rfl (lv_at hl 1 rfl) ?_
                      refine lv_iload_n hx hb d_MD_into_124 rfl (lv_at hl 2 rfl) ?_
                      refine lv_iload_n hx hb d_MD_into_125 rfl (lv_at hl 4 rfl) ?_
                      obtain ⟨r215, g_r215, h⟩ := ob_some h
                      refine cl_MD_130 (rest := [.ref (ad 0)]) C (hml.trans hl.1.symm) hW.1 g_r215 ⟨Nat.le_of_ble_eq_true rfl, Nat.le_of_ble_eq_true rfl⟩ (Nat.le_of_ble_eq_true rfl) d_MD_into_126 ⟨Nat.zero_le _, Nat.zero_le _⟩ ?_
                      refine lv_iload hx hb d_MD_into_129 (lv_at hl 0 rfl) ?_
                      refine lv_iload_n hx hb d_MD_into_131 rfl (lv_at hl 4 rfl) ?_
                      obtain ⟨r216, g_r216, h⟩ := ob_some h
                      refine cl_MD_151 (rest := []) C (hml.trans hl.1.symm) hW.1 g_r216 ⟨Nat.le_of_ble_eq_true rfl, Nat.le_of_ble_eq_true rfl⟩ (Nat.le_of_ble_eq_true rfl) d_MD_into_132 ⟨Nat.zero_le _, Nat.zero_le _⟩ ?_
                      refine lv_if_eq (tgt := 142) hx hb d_MD_into_135 (by decide) (fun c217 => ?_) (fun c217 => ?_)
                      · rw [if_pos c217] at h
                        refine lv_iload hx hb d_MD_into_142 (lv_at hl 0 rfl) ?_
                        refine lv_iconst (v := (-1)) hx hb d_MD_into_144 (by decide) ?_
                        refine lv_icmp_eq (tgt := 163) hx hb d_MD_into_145 (by decide) (fun c220 => ?_) (fun c220 => ?_)
                        · rw [if_pos c220] at h
                          refine lv_iconst (v := 0) hx hb d_MD_into_163 (by decide) ?_
                          refine lv_istore (lv' := [(6, .int 0), (5, .int r202), (0, .ref (ad 0)), (1, .int x1), (2, .int x2), (3, .int x3)]) hx hb d_MD_into_164 hl (by decide) rfl (fun ls hl => ?_)
                          refine lv_iload hx hb d_MD_into_166 (lv_at hl 0 rfl) ?_
                          refine lv_if_ne (tgt := 179) hx hb d_MD_into_168 (by decide) (fun c227 => ?_) (fun c227 => ?_)
                          · rw [if_neg c227] at h
                            refine lv_iload hx hb d_MD_into_179 (lv_at hl 0 rfl) ?_
                            exact W.iret hx hb hr (fun t ht _ => qr_i h ht hW) hW.2.2.2 d_MD_into_181
                          · rw [if_pos c227] at h
                            refine lv_aload_n hx hb d_MD_into_171 rfl (lv_at hl 2 rfl) ?_
                            refine lv_iload_n hx hb d_MD_into_172 rfl (lv_at hl 3 rfl) ?_
                            refine lv_iload_n hx hb d_MD_into_173 rfl (lv_at hl 5 rfl) ?_
                            refine lv_iconst (v := 1) hx hb d_MD_into_174 (by decide) ?_
                            refine lv_iload_n hx hb d_MD_into_175 rfl (lv_at hl 4 rfl) ?_
                            obtain ⟨r228, g_r228, h⟩ := ob_some h
                            refine cl_MD_157 (rest := []) C hD (hml.trans hl.1.symm) hW g_r228 ⟨Nat.le_of_ble_eq_true rfl, Nat.le_of_ble_eq_true rfl⟩ (Nat.le_of_ble_eq_true rfl) d_MD_into_176 ⟨Nat.zero_le _, Nat.zero_le _⟩ (fun H locs hW => ?_)
                            refine lv_iload hx hb d_MD_into_179 (lv_at hl 0 rfl) ?_
                            exact W.iret hx hb hr (fun t ht _ => qr_i h ht hW) hW.2.2.2 d_MD_into_181
                        · rw [if_neg c220] at h
                          refine lv_aload_n hx hb d_MD_into_148 rfl (lv_at hl 1 rfl) ?_
                          refine lv_iload_n hx hb d_MD_into_149 rfl (lv_at hl 2 rfl) ?_
                          refine lv_iload hx hb d_MD_into_150 (lv_at hl 0 rfl) ?_
                          refine lv_iload_n hx hb d_MD_into_152 rfl (lv_at hl 4 rfl) ?_
                          obtain ⟨r221, g_r221, h⟩ := ob_some h
                          refine cl_MD_154 (rest := []) C hD (hml.trans hl.1.symm) hW g_r221 ⟨Nat.le_of_ble_eq_true rfl, Nat.le_of_ble_eq_true rfl⟩ (Nat.le_of_ble_eq_true rfl) d_MD_into_153 ⟨Nat.zero_le _, Nat.zero_le _⟩ (fun H locs hW => ?_)
                          refine lv_if_ne (tgt := 163) hx hb d_MD_into_156 (by decide) (fun c222 => ?_) (fun c222 => ?_)
                          · rw [if_neg c222] at h
                            refine lv_iconst (v := 0) hx hb d_MD_into_163 (by decide) ?_
                            refine lv_istore (lv' := [(6, .int 0), (5, .int r202), (0, .ref (ad 0)), (1, .int x1), (2, .int x2), (3, .int x3)]) hx hb d_MD_into_164 hl (by decide) rfl (fun ls hl => ?_)
                            refine lv_iload hx hb d_MD_into_166 (lv_at hl 0 rfl) ?_
                            refine lv_if_ne (tgt := 179) hx hb d_MD_into_168 (by decide) (fun c225 => ?_) (fun c225 => ?_)
                            · rw [if_neg c225] at h
                              refine lv_iload hx hb d_MD_into_179 (lv_at hl 0 rfl) ?_
                              exact W.iret hx hb hr (fun t ht _ => qr_i h ht hW) hW.2.2.2 d_MD_into_181
                            · rw [if_pos c225] at h
                              refine lv_aload_n hx hb d_MD_into_171 rfl (lv_at hl 2 rfl) ?_
                              refine lv_iload_n hx hb d_MD_into_172 rfl (lv_at hl 3 rfl) ?_
                              refine lv_iload_n hx hb d_MD_into_173 rfl (lv_at hl 5 rfl) ?_
                              refine lv_iconst (v := 1) hx hb d_MD_into_174 (by decide) ?_
                              refine lv_iload_n hx hb d_MD_into_175 rfl (lv_at hl 4 rfl) ?_
                              obtain ⟨r226, g_r226, h⟩ := ob_some h
                              refine cl_MD_157 (rest := []) C hD (hml.trans hl.1.symm) hW g_r226 ⟨Nat.le_of_ble_eq_true rfl, Nat.le_of_ble_eq_true rfl⟩ (Nat.le_of_ble_eq_true rfl) d_MD_into_176 ⟨Nat.zero_le _, Nat.zero_le _⟩ (fun H locs hW => ?_)
                              refine lv_iload hx hb d_MD_into_179 (lv_at hl 0 rfl) ?_
                              exact W.iret hx hb hr (fun t ht _ => qr_i h ht hW) hW.2.2.2 d_MD_into_181
                          · rw [if_pos c222] at h
                            refine lv_iconst (v := 5) hx hb d_MD_into_159 (by decide) ?_
                            refine lv_goto (tgt := 164) hx hb d_MD_into_160 (by decide) ?_
                            refine lv_istore (lv' := [(6, .int 5), (5, .int r202), (0, .ref (ad 0)), (1, .int x1), (2, .int x2), (3, .int x3)]) hx hb d_MD_into_164 hl (by decide) rfl (fun ls hl => ?_)
                            refine lv_iload hx hb d_MD_into_166 (lv_at hl 0 rfl) ?_
                            refine lv_if_ne (tgt := 179) hx hb d_MD_into_168 (by decide) (fun c223 => ?_) (fun c223 => ?_)
                            · rw [if_neg c223] at h
                              refine lv_iload hx hb d_MD_into_179 (lv_at hl 0 rfl) ?_
                              exact W.iret hx hb hr (fun t ht _ => qr_i h ht hW) hW.2.2.2 d_MD_into_181
                            · rw [if_pos c223] at h
                              refine lv_aload_n hx hb d_MD_into_171 rfl (lv_at hl 2 rfl) ?_
                              refine lv_iload_n hx hb d_MD_into_172 rfl (lv_at hl 3 rfl) ?_
                              refine lv_iload_n hx hb d_MD_into_173 rfl (lv_at hl 5 rfl) ?_
                              refine lv_iconst (v := 1) hx hb d_MD_into_174 (by decide) ?_
                              refine lv_iload_n hx hb d_MD_into_175 rfl (lv_at hl 4 rfl) ?_
                              obtain ⟨r224, g_r224, h⟩ := ob_some h
                              refine cl_MD_157 (rest := []) C hD (hml.trans hl.1.symm) hW g_r224 ⟨Nat.le_of_ble_eq_true rfl, Nat.le_of_ble_eq_true rfl⟩ (Nat.le_of_ble_eq_true rfl) d_MD_into_176 ⟨Nat.zero_le _, Nat.zero_le _⟩ (fun H locs hW => ?_)
                              refine lv_iload hx hb d_MD_into_179 (lv_at hl 0 rfl) ?_
                              exact W.iret hx hb hr (fun t ht _ => qr_i h ht hW) hW.2.2.2 d_MD_into_181
                      · rw [if_neg c217] at h
                        refine lv_iconst (v := 4) hx hb d_MD_into_138 (by decide) ?_
                        refine lv_goto (tgt := 164) hx hb d_MD_into_139 (by decide) ?_
                        refine lv_istore (lv' := [(6, .int 4), (5, .int r202), (0, .ref (ad 0)), (1, .int x1), (2, .int x2), (3, .int x3)]) hx hb d_MD_into_164 hl (by decide) rfl (fun ls hl => ?_)
                        refine lv_iload hx hb d_MD_into_166 (lv_at hl 0 rfl) ?_
                        refine lv_if_ne (tgt := 179) hx hb d_MD_into_168 (by decide) (fun c218 => ?_) (fun c218 => ?_)
                        · rw [if_neg c218] at h
                          refine lv_iload hx hb d_MD_into_179 (lv_at hl 0 rfl) ?_
                          exact W.iret hx hb hr (fun t ht _ => qr_i h ht hW) hW.2.2.2 d_MD_into_181
                        · rw [if_pos c218] at h
                          refine lv_aload_n hx hb d_MD_into_171 rfl (lv_at hl 2 rfl) ?_
                          refine lv_iload_n hx hb d_MD_into_172 rfl (lv_at hl 3 rfl) ?_
                          refine lv_iload_n hx hb d_MD_into_173 rfl (lv_at hl 5 rfl) ?_
                          refine lv_iconst (v := 1) hx hb d_MD_into_174 (by decide) ?_
                          refine lv_iload_n hx hb d_MD_into_175 rfl (lv_at hl 4 rfl) ?_
                          obtain ⟨r219, g_r219, h⟩ := ob_some h
                          refine cl_MD_157 (rest := []) C hD (hml.trans hl.1.symm) hW g_r219 ⟨Nat.le_of_ble_eq_true rfl, Nat.le_of_ble_eq_true rfl⟩ (Nat.le_of_ble_eq_true rfl) d_MD_into_176 ⟨Nat.zero_le _, Nat.zero_le _⟩ (fun H locs hW => ?_)
                          refine lv_iload hx hb d_MD_into_179 (lv_at hl 0 rfl) ?_
                          exact W.iret hx hb hr (fun t ht _ => qr_i h ht hW) hW.2.2.2 d_MD_into_181
                    · rw [if_neg c212] at h
                      refine lv_iconst (v := 3) hx hb d_MD_into_118 (by decide) ?_
                      refine lv_goto (tgt := 164) hx hb d_MD_into_119 (by decide) ?_
                      refine lv_istore (lv' := [(6, .int 3), (5, .int r202), (0, .ref (ad 0)), (1, .int x1), (2, .int x2), (3, .int x3)]) hx hb d_MD_into_164 hl (by decide) rfl (fun ls hl => ?_)
                      refine lv_iload hx hb d_MD_into_166 (lv_at hl 0 rfl) ?_
                      refine lv_if_ne (tgt := 179) hx hb d_MD_into_168 (by decide) (fun c213 => ?_) (fun c213 => ?_)
                      · rw [if_neg c213] at h
                        refine lv_iload hx hb d_MD_into_179 (lv_at hl 0 rfl) ?_
                        exact W.iret hx hb hr (fun t ht _ => qr_i h ht hW) hW.2.2.2 d_MD_into_181
                      · rw [if_pos c213] at h
                        refine lv_aload_n hx hb d_MD_into_171 rfl (lv_at hl 2 rfl) ?_
                        refine lv_iload_n hx hb d_MD_into_172 rfl (lv_at hl 3 rfl) ?_
                        refine lv_iload_n hx hb d_MD_into_173 rfl (lv_at hl 5 rfl) ?_
                        refine lv_iconst (v := 1) hx hb d_MD_into_174 (by decide) ?_
                        refine lv_iload_n hx hb d_MD_into_175 rfl (lv_at hl 4 rfl) ?_
                        obtain ⟨r214, g_r214, h⟩ := ob_some h
                        refine cl_MD_157 (rest := []) C hD (hml.trans hl.1.symm) hW g_r214 ⟨Nat.le_of_ble_eq_true rfl, Nat.le_of_ble_eq_true rfl⟩ (Nat.le_of_ble_eq_true rfl) d_MD_into_176 ⟨Nat.zero_le _, Nat.zero_le _⟩ (fun H locs hW => ?_)
                        refine lv_iload hx hb d_MD_into_179 (lv_at hl 0 rfl) ?_
                        exact W.iret hx hb hr (fun t ht _ => qr_i h ht hW) hW.2.2.2 d_MD_into_181
                  · rw [if_pos c209] at h
                    refine lv_iconst (v := 2) hx hb d_MD_into_105 (by decide) ?_
                    refine lv_goto (tgt := 164) hx hb d_MD_into_106 (by decide) ?_
                    refine lv_istore (lv' := [(6, .int 2), (5, .int r202), (0, .ref (ad 0)), (1, .int x1), (2, .int x2), (3, .int x3)]) hx hb d_MD_into_164 hl (by decide) rfl (fun ls hl => ?_)
                    refine lv_iload hx hb d_MD_into_166 (lv_at hl 0 rfl) ?_
                    refine lv_if_ne (tgt := 179) hx hb d_MD_into_168 (by decide) (fun c210 => ?_) (fun c210 => ?_)
                    · rw [if_neg c210] at h
                      refine lv_iload hx hb d_MD_into_179 (lv_at hl 0 rfl) ?_
                      exact W.iret hx hb hr (fun t ht _ => qr_i h ht hW) hW.2.2.2 d_MD_into_181
                    · rw [if_pos c210] at h
                      refine lv_aload_n hx hb d_MD_into_171 rfl (lv_at hl 2 rfl) ?_
                      refine lv_iload_n hx hb d_MD_into_172 rfl (lv_at hl 3 rfl) ?_
                      refine lv_iload_n hx hb d_MD_into_173 rfl (lv_at hl 5 rfl) ?_
                      refine lv_iconst (v := 1) hx hb d_MD_into_174 (by decide) ?_
                      refine lv_iload_n hx hb d_MD_into_175 rfl (lv_at hl 4 rfl) ?_
                      obtain ⟨r211, g_r211, h⟩ := ob_some h
                      refine cl_MD_157 (rest := []) C hD (hml.trans hl.1.symm) hW g_r211 ⟨Nat.le_of_ble_eq_true rfl, Nat.le_of_ble_eq_true rfl⟩ (Nat.le_of_ble_eq_true rfl) d_MD_into_176 ⟨Nat.zero_le _, Nat.zero_le _⟩ (fun H locs hW => ?_)
                      refine lv_iload hx hb d_MD_into_179 (lv_at hl 0 rfl) ?_
                      exact W.iret hx hb hr (fun t ht _ => qr_i h ht hW) hW.2.2.2 d_MD_into_181
                · rw [if_neg c205] at h
                  have k92 : ∀ (x1 : Int32) (x2 : Int32) (x3 : Int32) (σ : Sg) (h : C_MD_into_92 x1 x2 x3 σ = some out) (H : Heap) (locs : List Loc) (hW : WR G ad cI cZ s σ H locs) (ls : Array Slot) (hl : lv_has ls 7 [(0, .ref (ad 0)), (1, .int x1), (2, .int x2), (3, .int x3)]), W p l e (headSpec wl_MD_into ({ frames := 5, cells := 0, slots := 0, locals := 122 } : Room)).room s m (([.ref (ad 0), .int a1, .int a2, .int a3] : List Value).toArray) below meth c H locs 0 0 (MQ below (QRi G ad cI cZ out) (([.ref (ad 0), .int a1, .int a2, .int a3] : List Value).toArray) s 0 0 (AR ad)) (F0 m 92 ls []) := by
                    intro x1 x2 x3 σ h H locs hW ls hl
                    unfold C_MD_into_92 at h
                    refine lv_iconst (v := 1) hx hb d_MD_into_92 (by decide) ?_
                    refine lv_goto (tgt := 164) hx hb d_MD_into_93 (by decide) ?_
                    refine lv_istore (lv' := [(6, .int 1), (0, .ref (ad 0)), (1, .int x1), (2, .int x2), (3, .int x3)]) hx hb d_MD_into_164 hl (by decide) rfl (fun ls hl => ?_)
                    refine lv_iload hx hb d_MD_into_166 (lv_at hl 0 rfl) ?_
                    refine lv_if_ne (tgt := 179) hx hb d_MD_into_168 (by decide) (fun c206 => ?_) (fun c206 => ?_)
                    · rw [if_neg c206] at h
                      refine lv_iload hx hb d_MD_into_179 (lv_at hl 0 rfl) ?_
                      exact W.iret hx hb hr (fun t ht _ => qr_i h ht hW) hW.2.2.2 d_MD_into_181
                    · rw [if_pos c206] at h
                      refine lv_aload_n hx hb d_MD_into_171 rfl (lv_at hl 1 rfl) ?_
                      refine lv_iload_n hx hb d_MD_into_172 rfl (lv_at hl 2 rfl) ?_
                      refine lv_iload_n hx hb d_MD_into_173 rfl (lv_at hl 4 rfl) ?_
                      refine lv_iconst (v := 1) hx hb d_MD_into_174 (by decide) ?_
                      refine lv_iload_n hx hb d_MD_into_175 rfl (lv_at hl 3 rfl) ?_
                      obtain ⟨r207, g_r207, h⟩ := ob_some h
                      refine cl_MD_157 (rest := []) C hD (hml.trans hl.1.symm) hW g_r207 ⟨Nat.le_of_ble_eq_true rfl, Nat.le_of_ble_eq_true rfl⟩ (Nat.le_of_ble_eq_true rfl) d_MD_into_176 ⟨Nat.zero_le _, Nat.zero_le _⟩ (fun H locs hW => ?_)
                      refine lv_iload hx hb d_MD_into_179 (lv_at hl 0 rfl) ?_
                      exact W.iret hx hb hr (fun t ht _ => qr_i h ht hW) hW.2.2.2 d_MD_into_181
                  exact k92 x1 x2 x3 r200.2 h _ _ hW _ (lv_sub hl [1, 2, 3, 4] rfl)
            · rw [if_pos c201] at h
              refine lv_iconst (v := 0) hx hb d_MD_into_63 (by decide) ?_
              exact W.iret hx hb hr (fun t ht _ => qr_i h ht hW) hW.2.2.2 d_MD_into_64
          exact k57 x1 x2 x3 1 r197 s0 σ h _ _ hW _ (lv_sub hl [1, 2, 3, 4] rfl)
    exact k21 a1 a2 a3 0 σ h _ _ hW _ (lv_sub hl [0, 1, 2, 3] rfl)
  · rw [if_neg c2] at h
    refine lv_aload_n hx hb d_MD_into_8 rfl (lv_at hl 0 rfl) ?_
    refine lv_iload_n hx hb d_MD_into_9 rfl (lv_at hl 2 rfl) ?_
    obtain ⟨r3, g_r3, h⟩ := ob_some h
    refine cl_MD_110 (rest := []) C (hml.trans hl.1.symm) hW.1 g_r3 ⟨Nat.le_of_ble_eq_true rfl, Nat.le_of_ble_eq_true rfl⟩ (Nat.le_of_ble_eq_true rfl) d_MD_into_10 ⟨Nat.zero_le _, Nat.zero_le _⟩ ?_
    refine lv_if_eq (tgt := 20) hx hb d_MD_into_13 (by decide) (fun c4 => ?_) (fun c4 => ?_)
    · rw [if_pos c4] at h
      refine lv_iconst (v := 0) hx hb d_MD_into_20 (by decide) ?_
      have k21 : ∀ (x1 : Int32) (x2 : Int32) (x3 : Int32) (s0 : Int32) (σ : Sg) (h : C_MD_into_21 x1 x2 x3 s0 σ = some out) (H : Heap) (locs : List Loc) (hW : WR G ad cI cZ s σ H locs) (ls : Array Slot) (hl : lv_has ls 7 [(0, .ref (ad 0)), (1, .int x1), (2, .int x2), (3, .int x3)]), W p l e (headSpec wl_MD_into ({ frames := 5, cells := 0, slots := 0, locals := 122 } : Room)).room s m (([.ref (ad 0), .int a1, .int a2, .int a3] : List Value).toArray) below meth c H locs 0 0 (MQ below (QRi G ad cI cZ out) (([.ref (ad 0), .int a1, .int a2, .int a3] : List Value).toArray) s 0 0 (AR ad)) (F0 m 21 ls [.int s0]) := by
        intro x1 x2 x3 s0 σ h H locs hW ls hl
        unfold C_MD_into_21 at h
        refine lv_istore (lv' := [(4, .int s0), (0, .ref (ad 0)), (1, .int x1), (2, .int x2), (3, .int x3)]) hx hb d_MD_into_21 hl (by decide) rfl (fun ls hl => ?_)
        refine lv_aload_n hx hb d_MD_into_23 rfl (lv_at hl 1 rfl) ?_
        refine lv_iload hx hb d_MD_into_24 (lv_at hl 0 rfl) ?_
        refine lv_iload_n hx hb d_MD_into_26 rfl (lv_at hl 4 rfl) ?_
        refine lv_aload_n hx hb d_MD_into_27 rfl (lv_at hl 1 rfl) ?_
        refine gf_MD_145 C hW.1 d_MD_into_28 ?_
        refine lv_ldc (v := 1000000) hx hb hown (hts _ w_724) d_MD_into_31 ?_
        obtain ⟨r101, g_r101, h⟩ := ob_some h
        refine cl_MD_98 (rest := [.int s0, .ref (ad 0)]) C (hml.trans hl.1.symm) hW.1 g_r101 ⟨Nat.le_of_ble_eq_true rfl, Nat.le_of_ble_eq_true rfl⟩ (Nat.le_of_ble_eq_true rfl) d_MD_into_33 ⟨Nat.zero_le _, Nat.zero_le _⟩ ?_
        refine lv_iload hx hb d_MD_into_36 (lv_at hl 0 rfl) ?_
        refine lv_if_eq (tgt := 56) hx hb d_MD_into_38 (by decide) (fun c102 => ?_) (fun c102 => ?_)
        · rw [if_pos c102] at h
          refine lv_iconst (v := 0) hx hb d_MD_into_56 (by decide) ?_
          have k57 : ∀ (x1 : Int32) (x2 : Int32) (x3 : Int32) (s0 : Int32) (s1 : Int32) (s2 : Int32) (σ : Sg) (h : C_MD_into_57 x1 x2 x3 s0 s1 s2 σ = some out) (H : Heap) (locs : List Loc) (hW : WR G ad cI cZ s σ H locs) (ls : Array Slot) (hl : lv_has ls 7 [(0, .ref (ad 0)), (1, .int x1), (2, .int x2), (3, .int x3)]), W p l e (headSpec wl_MD_into ({ frames := 5, cells := 0, slots := 0, locals := 122 } : Room)).room s m (([.ref (ad 0), .int a1, .int a2, .int a3] : List Value).toArray) below meth c H locs 0 0 (MQ below (QRi G ad cI cZ out) (([.ref (ad 0), .int a1, .int a2, .int a3] : List Value).toArray) s 0 0 (AR ad)) (F0 m 57 ls [.int s0, .int s1, .int s2, .ref (ad 0)]) := by
            intro x1 x2 x3 s0 s1 s2 σ h H locs hW ls hl
            unfold C_MD_into_57 at h
            obtain ⟨r166, g_r166, h⟩ := ob_some h
            refine cl_MD_102 (rest := []) C hD (hml.trans hl.1.symm) hW g_r166 ⟨Nat.le_of_ble_eq_true rfl, Nat.le_of_ble_eq_true rfl⟩ (Nat.le_of_ble_eq_true rfl) d_MD_into_57 ⟨Nat.zero_le _, Nat.zero_le _⟩ (fun H locs hW => ?_)
            refine lv_if_ne (tgt := 65) hx hb d_MD_into_60 (by decide) (fun c167 => ?_) (fun c167 => ?_)
            · rw [if_neg c167] at h
              refine lv_aload_n hx hb d_MD_into_65 rfl (lv_at hl 0 rfl) ?_
              refine lv_iload_n hx hb d_MD_into_66 rfl (lv_at hl 2 rfl) ?_
              refine lv_iload_n hx hb d_MD_into_67 rfl (lv_at hl 3 rfl) ?_
              obtain ⟨r168, g_r168, h⟩ := ob_some h
              refine cl_MD_130 (rest := []) C (hml.trans hl.1.symm) hW.1 g_r168 ⟨Nat.le_of_ble_eq_true rfl, Nat.le_of_ble_eq_true rfl⟩ (Nat.le_of_ble_eq_true rfl) d_MD_into_68 ⟨Nat.zero_le _, Nat.zero_le _⟩ ?_
              refine lv_istore (lv' := [(5, .int r168), (0, .ref (ad 0)), (1, .int x1), (2, .int x2), (3, .int x3)]) hx hb d_MD_into_71 hl (by decide) rfl (fun ls hl => ?_)
              refine lv_aload_n hx hb d_MD_into_73 rfl (lv_at hl 1 rfl) ?_
              refine gf_MD_25 C hW.1 d_MD_into_74 ?_
              refine lv_iload_n hx hb d_MD_into_77 rfl (lv_at hl 3 rfl) ?_
              obtain ⟨hin, h⟩ := gd_some h
              refine alR_6 C hW.1 hin d_MD_into_78 ?_
              refine lv_if_eq (tgt := 92) hx hb d_MD_into_79 (by decide) (fun c169 => ?_) (fun c169 => ?_)
              · rw [if_pos c169] at h
                have k92 : ∀ (x1 : Int32) (x2 : Int32) (x3 : Int32) (σ : Sg) (h : C_MD_into_92 x1 x2 x3 σ = some out) (H : Heap) (locs : List Loc) (hW : WR G ad cI cZ s σ H locs) (ls : Array Slot) (hl : lv_has ls 7 [(0, .ref (ad 0)), (1, .int x1), (2, .int x2), (3, .int x3)]), W p l e (headSpec wl_MD_into ({ frames := 5, cells := 0, slots := 0, locals := 122 } : Room)).room s m (([.ref (ad 0), .int a1, .int a2, .int a3] : List Value).toArray) below meth c H locs 0 0 (MQ below (QRi G ad cI cZ out) (([.ref (ad 0), .int a1, .int a2, .int a3] : List Value).toArray) s 0 0 (AR ad)) (F0 m 92 ls []) := by
                  intro x1 x2 x3 σ h H locs hW ls hl
                  unfold C_MD_into_92 at h
                  refine lv_iconst (v := 1) hx hb d_MD_into_92 (by decide) ?_
                  refine lv_goto (tgt := 164) hx hb d_MD_into_93 (by decide) ?_
                  refine lv_istore (lv' := [(6, .int 1), (0, .ref (ad 0)), (1, .int x1), (2, .int x2), (3, .int x3)]) hx hb d_MD_into_164 hl (by decide) rfl (fun ls hl => ?_)
                  refine lv_iload hx hb d_MD_into_166 (lv_at hl 0 rfl) ?_
                  refine lv_if_ne (tgt := 179) hx hb d_MD_into_168 (by decide) (fun c195 => ?_) (fun c195 => ?_)
                  · rw [if_neg c195] at h
                    refine lv_iload hx hb d_MD_into_179 (lv_at hl 0 rfl) ?_
                    exact W.iret hx hb hr (fun t ht _ => qr_i h ht hW) hW.2.2.2 d_MD_into_181
                  · rw [if_pos c195] at h
                    refine lv_aload_n hx hb d_MD_into_171 rfl (lv_at hl 1 rfl) ?_
                    refine lv_iload_n hx hb d_MD_into_172 rfl (lv_at hl 2 rfl) ?_
                    refine lv_iload_n hx hb d_MD_into_173 rfl (lv_at hl 4 rfl) ?_
                    refine lv_iconst (v := 1) hx hb d_MD_into_174 (by decide) ?_
                    refine lv_iload_n hx hb d_MD_into_175 rfl (lv_at hl 3 rfl) ?_
                    obtain ⟨r196, g_r196, h⟩ := ob_some h
                    refine cl_MD_157 (rest := []) C hD (hml.trans hl.1.symm) hW g_r196 ⟨Nat.le_of_ble_eq_true rfl, Nat.le_of_ble_eq_true rfl⟩ (Nat.le_of_ble_eq_true rfl) d_MD_into_176 ⟨Nat.zero_le _, Nat.zero_le _⟩ (fun H locs hW => ?_)
                    refine lv_iload hx hb d_MD_into_179 (lv_at hl 0 rfl) ?_
                    exact W.iret hx hb hr (fun t ht _ => qr_i h ht hW) hW.2.2.2 d_MD_into_181
                exact k92 x1 x2 x3 r166.2 h _ _ hW _ (lv_sub hl [1, 2, 3, 4] rfl)
              · rw [if_neg c169] at h
                refine lv_aload_n hx hb d_MD_into_82 rfl (lv_at hl 1 rfl) ?_
                refine lv_iload_n hx hb d_MD_into_83 rfl (lv_at hl 2 rfl) ?_
                refine lv_iload_n hx hb d_MD_into_84 rfl (lv_at hl 3 rfl) ?_
                refine lv_iload_n hx hb d_MD_into_85 rfl (lv_at hl 4 rfl) ?_
                obtain ⟨r170, g_r170, h⟩ := ob_some h
                refine cl_MD_164 (rest := []) C (hml.trans hl.1.symm) hW.1 g_r170 ⟨Nat.le_of_ble_eq_true rfl, Nat.le_of_ble_eq_true rfl⟩ (Nat.le_of_ble_eq_true rfl) d_MD_into_86 ⟨Nat.zero_le _, Nat.zero_le _⟩ ?_
                refine lv_if_eq (tgt := 96) hx hb d_MD_into_89 (by decide) (fun c171 => ?_) (fun c171 => ?_)
                · rw [if_pos c171] at h
                  refine lv_aload_n hx hb d_MD_into_96 rfl (lv_at hl 1 rfl) ?_
                  refine lv_iload_n hx hb d_MD_into_97 rfl (lv_at hl 2 rfl) ?_
                  refine lv_iload_n hx hb d_MD_into_98 rfl (lv_at hl 3 rfl) ?_
                  obtain ⟨r174, g_r174, h⟩ := ob_some h
                  refine cl_MD_167 (rest := []) C (hml.trans hl.1.symm) hW.1 g_r174 ⟨Nat.le_of_ble_eq_true rfl, Nat.le_of_ble_eq_true rfl⟩ (Nat.le_of_ble_eq_true rfl) d_MD_into_99 ⟨Nat.zero_le _, Nat.zero_le _⟩ ?_
                  refine lv_if_ne (tgt := 109) hx hb d_MD_into_102 (by decide) (fun c175 => ?_) (fun c175 => ?_)
                  · rw [if_neg c175] at h
                    refine lv_aload_n hx hb d_MD_into_109 rfl (lv_at hl 1 rfl) ?_
                    refine gf_MD_22 C hW.1 d_MD_into_110 ?_
                    refine lv_iload_n hx hb d_MD_into_113 rfl (lv_at hl 2 rfl) ?_
                    obtain ⟨hin, h⟩ := gd_some h
                    refine alR_5 C hW.1 hin d_MD_into_114 ?_
                    refine lv_if_le (tgt := 122) hx hb d_MD_into_115 (by decide) (fun c178 => ?_) (fun c178 => ?_)
                    · rw [if_pos c178] at h
                      refine lv_aload_n hx hb d_MD_into_122 rfl (lv_at hl 1 rfl) ?_
                      refine lv_aload_n hx hb d_MD_into_123 rfl (lv_at hl 1 rfl) ?_
                      refine lv_iload_n hx hb d_MD_into_124 rfl (lv_at hl 2 rfl) ?_
                      refine lv_iload_n hx hb d_MD_into_125 rfl (lv_at hl 4 rfl) ?_
                      obtain ⟨r181, g_r181, h⟩ := ob_some h
                      refine cl_MD_130 (rest := [.ref (ad 0)]) C (hml.trans hl.1.symm) hW.1 g_r181 ⟨Nat.le_of_ble_eq_true rfl, Nat.le_of_ble_eq_true rfl⟩ (Nat.le_of_ble_eq_true rfl) d_MD_into_126 ⟨Nat.zero_le _, Nat.zero_le _⟩ ?_
                      refine lv_iload hx hb d_MD_into_129 (lv_at hl 0 rfl) ?_
                      refine lv_iload_n hx hb d_MD_into_131 rfl (lv_at hl 4 rfl) ?_
                      obtain ⟨r182, g_r182, h⟩ := ob_some h
                      refine cl_MD_151 (rest := []) C (hml.trans hl.1.symm) hW.1 g_r182 ⟨Nat.le_of_ble_eq_true rfl, Nat.le_of_ble_eq_true rfl⟩ (Nat.le_of_ble_eq_true rfl) d_MD_into_132 ⟨Nat.zero_le _, Nat.zero_le _⟩ ?_
                      refine lv_if_eq (tgt := 142) hx hb d_MD_into_135 (by decide) (fun c183 => ?_) (fun c183 => ?_)
                      · rw [if_pos c183] at h
                        refine lv_iload hx hb d_MD_into_142 (lv_at hl 0 rfl) ?_
                        refine lv_iconst (v := (-1)) hx hb d_MD_into_144 (by decide) ?_
                        refine lv_icmp_eq (tgt := 163) hx hb d_MD_into_145 (by decide) (fun c186 => ?_) (fun c186 => ?_)
                        · rw [if_pos c186] at h
                          refine lv_iconst (v := 0) hx hb d_MD_into_163 (by decide) ?_
                          refine lv_istore (lv' := [(6, .int 0), (5, .int r168), (0, .ref (ad 0)), (1, .int x1), (2, .int x2), (3, .int x3)]) hx hb d_MD_into_164 hl (by decide) rfl (fun ls hl => ?_)
                          refine lv_iload hx hb d_MD_into_166 (lv_at hl 0 rfl) ?_
                          refine lv_if_ne (tgt := 179) hx hb d_MD_into_168 (by decide) (fun c193 => ?_) (fun c193 => ?_)
                          · rw [if_neg c193] at h
                            refine lv_iload hx hb d_MD_into_179 (lv_at hl 0 rfl) ?_
                            exact W.iret hx hb hr (fun t ht _ => qr_i h ht hW) hW.2.2.2 d_MD_into_181
                          · rw [if_pos c193] at h
                            refine lv_aload_n hx hb d_MD_into_171 rfl (lv_at hl 2 rfl) ?_
                            refine lv_iload_n hx hb d_MD_into_172 rfl (lv_at hl 3 rfl) ?_
                            refine lv_iload_n hx hb d_MD_into_173 rfl (lv_at hl 5 rfl) ?_
                            refine lv_iconst (v := 1) hx hb d_MD_into_174 (by decide) ?_
                            refine lv_iload_n hx hb d_MD_into_175 rfl (lv_at hl 4 rfl) ?_
                            obtain ⟨r194, g_r194, h⟩ := ob_some h
                            refine cl_MD_157 (rest := []) C hD (hml.trans hl.1.symm) hW g_r194 ⟨Nat.le_of_ble_eq_true rfl, Nat.le_of_ble_eq_true rfl⟩ (Nat.le_of_ble_eq_true rfl) d_MD_into_176 ⟨Nat.zero_le _, Nat.zero_le _⟩ (fun H locs hW => ?_)
                            refine lv_iload hx hb d_MD_into_179 (lv_at hl 0 rfl) ?_
                            exact W.iret hx hb hr (fun t ht _ => qr_i h ht hW) hW.2.2.2 d_MD_into_181
                        · rw [if_neg c186] at h
                          refine lv_aload_n hx hb d_MD_into_148 rfl (lv_at hl 1 rfl) ?_
                          refine lv_iload_n hx hb d_MD_into_149 rfl (lv_at hl 2 rfl) ?_
                          refine lv_iload hx hb d_MD_into_150 (lv_at hl 0 rfl) ?_
                          refine lv_iload_n hx hb d_MD_into_152 rfl (lv_at hl 4 rfl) ?_
                          obtain ⟨r187, g_r187, h⟩ := ob_some h
                          refine cl_MD_154 (rest := []) C hD (hml.trans hl.1.symm) hW g_r187 ⟨Nat.le_of_ble_eq_true rfl, Nat.le_of_ble_eq_true rfl⟩ (Nat.le_of_ble_eq_true rfl) d_MD_into_153 ⟨Nat.zero_le _, Nat.zero_le _⟩ (fun H locs hW => ?_)
                          refine lv_if_ne (tgt := 163) hx hb d_MD_into_156 (by decide) (fun c188 => ?_) (fun c188 => ?_)
                          · rw [if_neg c188] at h
                            refine lv_iconst (v := 0) hx hb d_MD_into_163 (by decide) ?_
                            refine lv_istore (lv' := [(6, .int 0), (5, .int r168), (0, .ref (ad 0)), (1, .int x1), (2, .int x2), (3, .int x3)]) hx hb d_MD_into_164 hl (by decide) rfl (fun ls hl => ?_)
                            refine lv_iload hx hb d_MD_into_166 (lv_at hl 0 rfl) ?_
                            refine lv_if_ne (tgt := 179) hx hb d_MD_into_168 (by decide) (fun c191 => ?_) (fun c191 => ?_)
                            · rw [if_neg c191] at h
                              refine lv_iload hx hb d_MD_into_179 (lv_at hl 0 rfl) ?_
                              exact W.iret hx hb hr (fun t ht _ => qr_i h ht hW) hW.2.2.2 d_MD_into_181
                            · rw [if_pos c191] at h
                              refine lv_aload_n hx hb d_MD_into_171 rfl (lv_at hl 2 rfl) ?_
                              refine lv_iload_n hx hb d_MD_into_172 rfl (lv_at hl 3 rfl) ?_
                              refine lv_iload_n hx hb d_MD_into_173 rfl (lv_at hl 5 rfl) ?_
                              refine lv_iconst (v := 1) hx hb d_MD_into_174 (by decide) ?_
                              refine lv_iload_n hx hb d_MD_into_175 rfl (lv_at hl 4 rfl) ?_
                              obtain ⟨r192, g_r192, h⟩ := ob_some h
                              refine cl_MD_157 (rest := []) C hD (hml.trans hl.1.symm) hW g_r192 ⟨Nat.le_of_ble_eq_true rfl, Nat.le_of_ble_eq_true rfl⟩ (Nat.le_of_ble_eq_true rfl) d_MD_into_176 ⟨Nat.zero_le _, Nat.zero_le _⟩ (fun H locs hW => ?_)
                              refine lv_iload hx hb d_MD_into_179 (lv_at hl 0 rfl) ?_
                              exact W.iret hx hb hr (fun t ht _ => qr_i h ht hW) hW.2.2.2 d_MD_into_181
                          · rw [if_pos c188] at h
                            refine lv_iconst (v := 5) hx hb d_MD_into_159 (by decide) ?_
                            refine lv_goto (tgt := 164) hx hb d_MD_into_160 (by decide) ?_
                            refine lv_istore (lv' := [(6, .int 5), (5, .int r168), (0, .ref (ad 0)), (1, .int x1), (2, .int x2), (3, .int x3)]) hx hb d_MD_into_164 hl (by decide) rfl (fun ls hl => ?_)
                            refine lv_iload hx hb d_MD_into_166 (lv_at hl 0 rfl) ?_
                            refine lv_if_ne (tgt := 179) hx hb d_MD_into_168 (by decide) (fun c189 => ?_) (fun c189 => ?_)
                            · rw [if_neg c189] at h
                              refine lv_iload hx hb d_MD_into_179 (lv_at hl 0 rfl) ?_
                              exact W.iret hx hb hr (fun t ht _ => qr_i h ht hW) hW.2.2.2 d_MD_into_181
                            · rw [if_pos c189] at h
                              refine lv_aload_n hx hb d_MD_into_171 rfl (lv_at hl 2 rfl) ?_
                              refine lv_iload_n hx hb d_MD_into_172 rfl (lv_at hl 3 rfl) ?_
                              refine lv_iload_n hx hb d_MD_into_173 rfl (lv_at hl 5 rfl) ?_
                              refine lv_iconst (v := 1) hx hb d_MD_into_174 (by decide) ?_
                              refine lv_iload_n hx hb d_MD_into_175 rfl (lv_at hl 4 rfl) ?_
                              obtain ⟨r190, g_r190, h⟩ := ob_some h
                              refine cl_MD_157 (rest := []) C hD (hml.trans hl.1.symm) hW g_r190 ⟨Nat.le_of_ble_eq_true rfl, Nat.le_of_ble_eq_true rfl⟩ (Nat.le_of_ble_eq_true rfl) d_MD_into_176 ⟨Nat.zero_le _, Nat.zero_le _⟩ (fun H locs hW => ?_)
                              refine lv_iload hx hb d_MD_into_179 (lv_at hl 0 rfl) ?_
                              exact W.iret hx hb hr (fun t ht _ => qr_i h ht hW) hW.2.2.2 d_MD_into_181
                      · rw [if_neg c183] at h
                        refine lv_iconst (v := 4) hx hb d_MD_into_138 (by decide) ?_
                        refine lv_goto (tgt := 164) hx hb d_MD_into_139 (by decide) ?_
                        refine lv_istore (lv' := [(6, .int 4), (5, .int r168), (0, .ref (ad 0)), (1, .int x1), (2, .int x2), (3, .int x3)]) hx hb d_MD_into_164 hl (by decide) rfl (fun ls hl => ?_)
                        refine lv_iload hx hb d_MD_into_166 (lv_at hl 0 rfl) ?_
                        refine lv_if_ne (tgt := 179) hx hb d_MD_into_168 (by decide) (fun c184 => ?_) (fun c184 => ?_)
                        · rw [if_neg c184] at h
                          refine lv_iload hx hb d_MD_into_179 (lv_at hl 0 rfl) ?_
                          exact W.iret hx hb hr (fun t ht _ => qr_i h ht hW) hW.2.2.2 d_MD_into_181
                        · rw [if_pos c184] at h
                          refine lv_aload_n hx hb d_MD_into_171 rfl (lv_at hl 2 rfl) ?_
                          refine lv_iload_n hx hb d_MD_into_172 rfl (lv_at hl 3 rfl) ?_
                          refine lv_iload_n hx hb d_MD_into_173 rfl (lv_at hl 5 rfl) ?_
                          refine lv_iconst (v := 1) hx hb d_MD_into_174 (by decide) ?_
                          refine lv_iload_n hx hb d_MD_into_175 rfl (lv_at hl 4 rfl) ?_
                          obtain ⟨r185, g_r185, h⟩ := ob_some h
                          refine cl_MD_157 (rest := []) C hD (hml.trans hl.1.symm) hW g_r185 ⟨Nat.le_of_ble_eq_true rfl, Nat.le_of_ble_eq_true rfl⟩ (Nat.le_of_ble_eq_true rfl) d_MD_into_176 ⟨Nat.zero_le _, Nat.zero_le _⟩ (fun H locs hW => ?_)
                          refine lv_iload hx hb d_MD_into_179 (lv_at hl 0 rfl) ?_
                          exact W.iret hx hb hr (fun t ht _ => qr_i h ht hW) hW.2.2.2 d_MD_into_181
                    · rw [if_neg c178] at h
                      refine lv_iconst (v := 3) hx hb d_MD_into_118 (by decide) ?_
                      refine lv_goto (tgt := 164) hx hb d_MD_into_119 (by decide) ?_
                      refine lv_istore (lv' := [(6, .int 3), (5, .int r168), (0, .ref (ad 0)), (1, .int x1), (2, .int x2), (3, .int x3)]) hx hb d_MD_into_164 hl (by decide) rfl (fun ls hl => ?_)
                      refine lv_iload hx hb d_MD_into_166 (lv_at hl 0 rfl) ?_
                      refine lv_if_ne (tgt := 179) hx hb d_MD_into_168 (by decide) (fun c179 => ?_) (fun c179 => ?_)
                      · rw [if_neg c179] at h
                        refine lv_iload hx hb d_MD_into_179 (lv_at hl 0 rfl) ?_
                        exact W.iret hx hb hr (fun t ht _ => qr_i h ht hW) hW.2.2.2 d_MD_into_181
                      · rw [if_pos c179] at h
                        refine lv_aload_n hx hb d_MD_into_171 rfl (lv_at hl 2 rfl) ?_
                        refine lv_iload_n hx hb d_MD_into_172 rfl (lv_at hl 3 rfl) ?_
                        refine lv_iload_n hx hb d_MD_into_173 rfl (lv_at hl 5 rfl) ?_
                        refine lv_iconst (v := 1) hx hb d_MD_into_174 (by decide) ?_
                        refine lv_iload_n hx hb d_MD_into_175 rfl (lv_at hl 4 rfl) ?_
                        obtain ⟨r180, g_r180, h⟩ := ob_some h
                        refine cl_MD_157 (rest := []) C hD (hml.trans hl.1.symm) hW g_r180 ⟨Nat.le_of_ble_eq_true rfl, Nat.le_of_ble_eq_true rfl⟩ (Nat.le_of_ble_eq_true rfl) d_MD_into_176 ⟨Nat.zero_le _, Nat.zero_le _⟩ (fun H locs hW => ?_)
                        refine lv_iload hx hb d_MD_into_179 (lv_at hl 0 rfl) ?_
                        exact W.iret hx hb hr (fun t ht _ => qr_i h ht hW) hW.2.2.2 d_MD_into_181
                  · rw [if_pos c175] at h
                    refine lv_iconst (v := 2) hx hb d_MD_into_105 (by decide) ?_
                    refine lv_goto (tgt := 164) hx hb d_MD_into_106 (by decide) ?_
                    refine lv_istore (lv' := [(6, .int 2), (5, .int r168), (0, .ref (ad 0)), (1, .int x1), (2, .int x2), (3, .int x3)]) hx hb d_MD_into_164 hl (by decide) rfl (fun ls hl => ?_)
                    refine lv_iload hx hb d_MD_into_166 (lv_at hl 0 rfl) ?_
                    refine lv_if_ne (tgt := 179) hx hb d_MD_into_168 (by decide) (fun c176 => ?_) (fun c176 => ?_)
                    · rw [if_neg c176] at h
                      refine lv_iload hx hb d_MD_into_179 (lv_at hl 0 rfl) ?_
                      exact W.iret hx hb hr (fun t ht _ => qr_i h ht hW) hW.2.2.2 d_MD_into_181
                    · rw [if_pos c176] at h
                      refine lv_aload_n hx hb d_MD_into_171 rfl (lv_at hl 2 rfl) ?_
                      refine lv_iload_n hx hb d_MD_into_172 rfl (lv_at hl 3 rfl) ?_
                      refine lv_iload_n hx hb d_MD_into_173 rfl (lv_at hl 5 rfl) ?_
                      refine lv_iconst (v := 1) hx hb d_MD_into_174 (by decide) ?_
                      refine lv_iload_n hx hb d_MD_into_175 rfl (lv_at hl 4 rfl) ?_
                      obtain ⟨r177, g_r177, h⟩ := ob_some h
                      refine cl_MD_157 (rest := []) C hD (hml.trans hl.1.symm) hW g_r177 ⟨Nat.le_of_ble_eq_true rfl, Nat.le_of_ble_eq_true rfl⟩ (Nat.le_of_ble_eq_true rfl) d_MD_into_176 ⟨Nat.zero_le _, Nat.zero_le _⟩ (fun H locs hW => ?_)
                      refine lv_iload hx hb d_MD_into_179 (lv_at hl 0 rfl) ?_
                      exact W.iret hx hb hr (fun t ht _ => qr_i h ht hW) hW.2.2.2 d_MD_into_181
                · rw [if_neg c171] at h
                  have k92 : ∀ (x1 : Int32) (x2 : Int32) (x3 : Int32) (σ : Sg) (h : C_MD_into_92 x1 x2 x3 σ = some out) (H : Heap) (locs : List Loc) (hW : WR G ad cI cZ s σ H locs) (ls : Array Slot) (hl : lv_has ls 7 [(0, .ref (ad 0)), (1, .int x1), (2, .int x2), (3, .int x3)]), W p l e (headSpec wl_MD_into ({ frames := 5, cells := 0, slots := 0, locals := 122 } : Room)).room s m (([.ref (ad 0), .int a1, .int a2, .int a3] : List Value).toArray) below meth c H locs 0 0 (MQ below (QRi G ad cI cZ out) (([.ref (ad 0), .int a1, .int a2, .int a3] : List Value).toArray) s 0 0 (AR ad)) (F0 m 92 ls []) := by
                    intro x1 x2 x3 σ h H locs hW ls hl
                    unfold C_MD_into_92 at h
                    refine lv_iconst (v := 1) hx hb d_MD_into_92 (by decide) ?_
                    refine lv_goto (tgt := 164) hx hb d_MD_into_93 (by decide) ?_
                    refine lv_istore (lv' := [(6, .int 1), (0, .ref (ad 0)), (1, .int x1), (2, .int x2), (3, .int x3)]) hx hb d_MD_into_164 hl (by decide) rfl (fun ls hl => ?_)
                    refine lv_iload hx hb d_MD_into_166 (lv_at hl 0 rfl) ?_
                    refine lv_if_ne (tgt := 179) hx hb d_MD_into_168 (by decide) (fun c172 => ?_) (fun c172 => ?_)
                    · rw [if_neg c172] at h
                      refine lv_iload hx hb d_MD_into_179 (lv_at hl 0 rfl) ?_
                      exact W.iret hx hb hr (fun t ht _ => qr_i h ht hW) hW.2.2.2 d_MD_into_181
                    · rw [if_pos c172] at h
                      refine lv_aload_n hx hb d_MD_into_171 rfl (lv_at hl 1 rfl) ?_
                      refine lv_iload_n hx hb d_MD_into_172 rfl (lv_at hl 2 rfl) ?_
                      refine lv_iload_n hx hb d_MD_into_173 rfl (lv_at hl 4 rfl) ?_
                      refine lv_iconst (v := 1) hx hb d_MD_into_174 (by decide) ?_
                      refine lv_iload_n hx hb d_MD_into_175 rfl (lv_at hl 3 rfl) ?_
                      obtain ⟨r173, g_r173, h⟩ := ob_some h
                      refine cl_MD_157 (rest := []) C hD (hml.trans hl.1.symm) hW g_r173 ⟨Nat.le_of_ble_eq_true rfl, Nat.le_of_ble_eq_true rfl⟩ (Nat.le_of_ble_eq_true rfl) d_MD_into_176 ⟨Nat.zero_le _, Nat.zero_le _⟩ (fun H locs hW => ?_)
                      refine lv_iload hx hb d_MD_into_179 (lv_at hl 0 rfl) ?_
                      exact W.iret hx hb hr (fun t ht _ => qr_i h ht hW) hW.2.2.2 d_MD_into_181
                  exact k92 x1 x2 x3 r166.2 h _ _ hW _ (lv_sub hl [1, 2, 3, 4] rfl)
            · rw [if_pos c167] at h
              refine lv_iconst (v := 0) hx hb d_MD_into_63 (by decide) ?_
              exact W.iret hx hb hr (fun t ht _ => qr_i h ht hW) hW.2.2.2 d_MD_into_64
          exact k57 x1 x2 x3 0 r101 s0 σ h _ _ hW _ (lv_sub hl [1, 2, 3, 4] rfl)
        · rw [if_neg c102] at h
          refine lv_aload_n hx hb d_MD_into_41 rfl (lv_at hl 1 rfl) ?_
          refine gf_MD_32 C hW.1 d_MD_into_42 ?_
          refine lv_iload_n hx hb d_MD_into_45 rfl (lv_at hl 2 rfl) ?_
          obtain ⟨hin, h⟩ := gd_some h
          refine alR_8 C hW.1 hin d_MD_into_46 ?_
          refine lv_bipush (v := 40) hx hb d_MD_into_47 (by decide) ?_
          refine lv_icmp_ge (tgt := 56) hx hb d_MD_into_49 (by decide) (fun c103 => ?_) (fun c103 => ?_)
          · rw [if_pos c103] at h
            refine lv_iconst (v := 0) hx hb d_MD_into_56 (by decide) ?_
            have k57 : ∀ (x1 : Int32) (x2 : Int32) (x3 : Int32) (s0 : Int32) (s1 : Int32) (s2 : Int32) (σ : Sg) (h : C_MD_into_57 x1 x2 x3 s0 s1 s2 σ = some out) (H : Heap) (locs : List Loc) (hW : WR G ad cI cZ s σ H locs) (ls : Array Slot) (hl : lv_has ls 7 [(0, .ref (ad 0)), (1, .int x1), (2, .int x2), (3, .int x3)]), W p l e (headSpec wl_MD_into ({ frames := 5, cells := 0, slots := 0, locals := 122 } : Room)).room s m (([.ref (ad 0), .int a1, .int a2, .int a3] : List Value).toArray) below meth c H locs 0 0 (MQ below (QRi G ad cI cZ out) (([.ref (ad 0), .int a1, .int a2, .int a3] : List Value).toArray) s 0 0 (AR ad)) (F0 m 57 ls [.int s0, .int s1, .int s2, .ref (ad 0)]) := by
              intro x1 x2 x3 s0 s1 s2 σ h H locs hW ls hl
              unfold C_MD_into_57 at h
              obtain ⟨r135, g_r135, h⟩ := ob_some h
              refine cl_MD_102 (rest := []) C hD (hml.trans hl.1.symm) hW g_r135 ⟨Nat.le_of_ble_eq_true rfl, Nat.le_of_ble_eq_true rfl⟩ (Nat.le_of_ble_eq_true rfl) d_MD_into_57 ⟨Nat.zero_le _, Nat.zero_le _⟩ (fun H locs hW => ?_)
              refine lv_if_ne (tgt := 65) hx hb d_MD_into_60 (by decide) (fun c136 => ?_) (fun c136 => ?_)
              · rw [if_neg c136] at h
                refine lv_aload_n hx hb d_MD_into_65 rfl (lv_at hl 0 rfl) ?_
                refine lv_iload_n hx hb d_MD_into_66 rfl (lv_at hl 2 rfl) ?_
                refine lv_iload_n hx hb d_MD_into_67 rfl (lv_at hl 3 rfl) ?_
                obtain ⟨r137, g_r137, h⟩ := ob_some h
                refine cl_MD_130 (rest := []) C (hml.trans hl.1.symm) hW.1 g_r137 ⟨Nat.le_of_ble_eq_true rfl, Nat.le_of_ble_eq_true rfl⟩ (Nat.le_of_ble_eq_true rfl) d_MD_into_68 ⟨Nat.zero_le _, Nat.zero_le _⟩ ?_
                refine lv_istore (lv' := [(5, .int r137), (0, .ref (ad 0)), (1, .int x1), (2, .int x2), (3, .int x3)]) hx hb d_MD_into_71 hl (by decide) rfl (fun ls hl => ?_)
                refine lv_aload_n hx hb d_MD_into_73 rfl (lv_at hl 1 rfl) ?_
                refine gf_MD_25 C hW.1 d_MD_into_74 ?_
                refine lv_iload_n hx hb d_MD_into_77 rfl (lv_at hl 3 rfl) ?_
                obtain ⟨hin, h⟩ := gd_some h
                refine alR_6 C hW.1 hin d_MD_into_78 ?_
                refine lv_if_eq (tgt := 92) hx hb d_MD_into_79 (by decide) (fun c138 => ?_) (fun c138 => ?_)
                · rw [if_pos c138] at h
                  have k92 : ∀ (x1 : Int32) (x2 : Int32) (x3 : Int32) (σ : Sg) (h : C_MD_into_92 x1 x2 x3 σ = some out) (H : Heap) (locs : List Loc) (hW : WR G ad cI cZ s σ H locs) (ls : Array Slot) (hl : lv_has ls 7 [(0, .ref (ad 0)), (1, .int x1), (2, .int x2), (3, .int x3)]), W p l e (headSpec wl_MD_into ({ frames := 5, cells := 0, slots := 0, locals := 122 } : Room)).room s m (([.ref (ad 0), .int a1, .int a2, .int a3] : List Value).toArray) below meth c H locs 0 0 (MQ below (QRi G ad cI cZ out) (([.ref (ad 0), .int a1, .int a2, .int a3] : List Value).toArray) s 0 0 (AR ad)) (F0 m 92 ls []) := by
                    intro x1 x2 x3 σ h H locs hW ls hl
                    unfold C_MD_into_92 at h
                    refine lv_iconst (v := 1) hx hb d_MD_into_92 (by decide) ?_
                    refine lv_goto (tgt := 164) hx hb d_MD_into_93 (by decide) ?_
                    refine lv_istore (lv' := [(6, .int 1), (0, .ref (ad 0)), (1, .int x1), (2, .int x2), (3, .int x3)]) hx hb d_MD_into_164 hl (by decide) rfl (fun ls hl => ?_)
                    refine lv_iload hx hb d_MD_into_166 (lv_at hl 0 rfl) ?_
                    refine lv_if_ne (tgt := 179) hx hb d_MD_into_168 (by decide) (fun c164 => ?_) (fun c164 => ?_)
                    · rw [if_neg c164] at h
                      refine lv_iload hx hb d_MD_into_179 (lv_at hl 0 rfl) ?_
                      exact W.iret hx hb hr (fun t ht _ => qr_i h ht hW) hW.2.2.2 d_MD_into_181
                    · rw [if_pos c164] at h
                      refine lv_aload_n hx hb d_MD_into_171 rfl (lv_at hl 1 rfl) ?_
                      refine lv_iload_n hx hb d_MD_into_172 rfl (lv_at hl 2 rfl) ?_
                      refine lv_iload_n hx hb d_MD_into_173 rfl (lv_at hl 4 rfl) ?_
                      refine lv_iconst (v := 1) hx hb d_MD_into_174 (by decide) ?_
                      refine lv_iload_n hx hb d_MD_into_175 rfl (lv_at hl 3 rfl) ?_
                      obtain ⟨r165, g_r165, h⟩ := ob_some h
                      refine cl_MD_157 (rest := []) C hD (hml.trans hl.1.symm) hW g_r165 ⟨Nat.le_of_ble_eq_true rfl, Nat.le_of_ble_eq_true rfl⟩ (Nat.le_of_ble_eq_true rfl) d_MD_into_176 ⟨Nat.zero_le _, Nat.zero_le _⟩ (fun H locs hW => ?_)
                      refine lv_iload hx hb d_MD_into_179 (lv_at hl 0 rfl) ?_
                      exact W.iret hx hb hr (fun t ht _ => qr_i h ht hW) hW.2.2.2 d_MD_into_181
                  exact k92 x1 x2 x3 r135.2 h _ _ hW _ (lv_sub hl [1, 2, 3, 4] rfl)
                · rw [if_neg c138] at h
                  refine lv_aload_n hx hb d_MD_into_82 rfl (lv_at hl 1 rfl) ?_
                  refine lv_iload_n hx hb d_MD_into_83 rfl (lv_at hl 2 rfl) ?_
                  refine lv_iload_n hx hb d_MD_into_84 rfl (lv_at hl 3 rfl) ?_
                  refine lv_iload_n hx hb d_MD_into_85 rfl (lv_at hl 4 rfl) ?_
                  obtain ⟨r139, g_r139, h⟩ := ob_some h
                  refine cl_MD_164 (rest := []) C (hml.trans hl.1.symm) hW.1 g_r139 ⟨Nat.le_of_ble_eq_true rfl, Nat.le_of_ble_eq_true rfl⟩ (Nat.le_of_ble_eq_true rfl) d_MD_into_86 ⟨Nat.zero_le _, Nat.zero_le _⟩ ?_
                  refine lv_if_eq (tgt := 96) hx hb d_MD_into_89 (by decide) (fun c140 => ?_) (fun c140 => ?_)
                  · rw [if_pos c140] at h
                    refine lv_aload_n hx hb d_MD_into_96 rfl (lv_at hl 1 rfl) ?_
                    refine lv_iload_n hx hb d_MD_into_97 rfl (lv_at hl 2 rfl) ?_
                    refine lv_iload_n hx hb d_MD_into_98 rfl (lv_at hl 3 rfl) ?_
                    obtain ⟨r143, g_r143, h⟩ := ob_some h
                    refine cl_MD_167 (rest := []) C (hml.trans hl.1.symm) hW.1 g_r143 ⟨Nat.le_of_ble_eq_true rfl, Nat.le_of_ble_eq_true rfl⟩ (Nat.le_of_ble_eq_true rfl) d_MD_into_99 ⟨Nat.zero_le _, Nat.zero_le _⟩ ?_
                    refine lv_if_ne (tgt := 109) hx hb d_MD_into_102 (by decide) (fun c144 => ?_) (fun c144 => ?_)
                    · rw [if_neg c144] at h
                      refine lv_aload_n hx hb d_MD_into_109 rfl (lv_at hl 1 rfl) ?_
                      refine gf_MD_22 C hW.1 d_MD_into_110 ?_
                      refine lv_iload_n hx hb d_MD_into_113 rfl (lv_at hl 2 rfl) ?_
                      obtain ⟨hin, h⟩ := gd_some h
                      refine alR_5 C hW.1 hin d_MD_into_114 ?_
                      refine lv_if_le (tgt := 122) hx hb d_MD_into_115 (by decide) (fun c147 => ?_) (fun c147 => ?_)
                      · rw [if_pos c147] at h
                        refine lv_aload_n hx hb d_MD_into_122 rfl (lv_at hl 1 rfl) ?_
                        refine lv_aload_n hx hb d_MD_into_123 rfl (lv_at hl 1 rfl) ?_
                        refine lv_iload_n hx hb d_MD_into_124 rfl (lv_at hl 2 rfl) ?_
                        refine lv_iload_n hx hb d_MD_into_125 rfl (lv_at hl 4 rfl) ?_
                        obtain ⟨r150, g_r150, h⟩ := ob_some h
                        refine cl_MD_130 (rest := [.ref (ad 0)]) C (hml.trans hl.1.symm) hW.1 g_r150 ⟨Nat.le_of_ble_eq_true rfl, Nat.le_of_ble_eq_true rfl⟩ (Nat.le_of_ble_eq_true rfl) d_MD_into_126 ⟨Nat.zero_le _, Nat.zero_le _⟩ ?_
                        refine lv_iload hx hb d_MD_into_129 (lv_at hl 0 rfl) ?_
                        refine lv_iload_n hx hb d_MD_into_131 rfl (lv_at hl 4 rfl) ?_
                        obtain ⟨r151, g_r151, h⟩ := ob_some h
                        refine cl_MD_151 (rest := []) C (hml.trans hl.1.symm) hW.1 g_r151 ⟨Nat.le_of_ble_eq_true rfl, Nat.le_of_ble_eq_true rfl⟩ (Nat.le_of_ble_eq_true rfl) d_MD_into_132 ⟨Nat.zero_le _, Nat.zero_le _⟩ ?_
                        refine lv_if_eq (tgt := 142) hx hb d_MD_into_135 (by decide) (fun c152 => ?_) (fun c152 => ?_)
                        · rw [if_pos c152] at h
                          refine lv_iload hx hb d_MD_into_142 (lv_at hl 0 rfl) ?_
                          refine lv_iconst (v := (-1)) hx hb d_MD_into_144 (by decide) ?_
                          refine lv_icmp_eq (tgt := 163) hx hb d_MD_into_145 (by decide) (fun c155 => ?_) (fun c155 => ?_)
                          · rw [if_pos c155] at h
                            refine lv_iconst (v := 0) hx hb d_MD_into_163 (by decide) ?_
                            refine lv_istore (lv' := [(6, .int 0), (5, .int r137), (0, .ref (ad 0)), (1, .int x1), (2, .int x2), (3, .int x3)]) hx hb d_MD_into_164 hl (by decide) rfl (fun ls hl => ?_)
                            refine lv_iload hx hb d_MD_into_166 (lv_at hl 0 rfl) ?_
                            refine lv_if_ne (tgt := 179) hx hb d_MD_into_168 (by decide) (fun c162 => ?_) (fun c162 => ?_)
                            · rw [if_neg c162] at h
                              refine lv_iload hx hb d_MD_into_179 (lv_at hl 0 rfl) ?_
                              exact W.iret hx hb hr (fun t ht _ => qr_i h ht hW) hW.2.2.2 d_MD_into_181
                            · rw [if_pos c162] at h
                              refine lv_aload_n hx hb d_MD_into_171 rfl (lv_at hl 2 rfl) ?_
                              refine lv_iload_n hx hb d_MD_into_172 rfl (lv_at hl 3 rfl) ?_
                              refine lv_iload_n hx hb d_MD_into_173 rfl (lv_at hl 5 rfl) ?_
                              refine lv_iconst (v := 1) hx hb d_MD_into_174 (by decide) ?_
                              refine lv_iload_n hx hb d_MD_into_175 rfl (lv_at hl 4 rfl) ?_
                              obtain ⟨r163, g_r163, h⟩ := ob_some h
                              refine cl_MD_157 (rest := []) C hD (hml.trans hl.1.symm) hW g_r163 ⟨Nat.le_of_ble_eq_true rfl, Nat.le_of_ble_eq_true rfl⟩ (Nat.le_of_ble_eq_true rfl) d_MD_into_176 ⟨Nat.zero_le _, Nat.zero_le _⟩ (fun H locs hW => ?_)
                              refine lv_iload hx hb d_MD_into_179 (lv_at hl 0 rfl) ?_
                              exact W.iret hx hb hr (fun t ht _ => qr_i h ht hW) hW.2.2.2 d_MD_into_181
                          · rw [if_neg c155] at h
                            refine lv_aload_n hx hb d_MD_into_148 rfl (lv_at hl 1 rfl) ?_
                            refine lv_iload_n hx hb d_MD_into_149 rfl (lv_at hl 2 rfl) ?_
                            refine lv_iload hx hb d_MD_into_150 (lv_at hl 0 rfl) ?_
                            refine lv_iload_n hx hb d_MD_into_152 rfl (lv_at hl 4 rfl) ?_
                            obtain ⟨r156, g_r156, h⟩ := ob_some h
                            refine cl_MD_154 (rest := []) C hD (hml.trans hl.1.symm) hW g_r156 ⟨Nat.le_of_ble_eq_true rfl, Nat.le_of_ble_eq_true rfl⟩ (Nat.le_of_ble_eq_true rfl) d_MD_into_153 ⟨Nat.zero_le _, Nat.zero_le _⟩ (fun H locs hW => ?_)
                            refine lv_if_ne (tgt := 163) hx hb d_MD_into_156 (by decide) (fun c157 => ?_) (fun c157 => ?_)
                            · rw [if_neg c157] at h
                              refine lv_iconst (v := 0) hx hb d_MD_into_163 (by decide) ?_
                              refine lv_istore (lv' := [(6, .int 0), (5, .int r137), (0, .ref (ad 0)), (1, .int x1), (2, .int x2), (3, .int x3)]) hx hb d_MD_into_164 hl (by decide) rfl (fun ls hl => ?_)
                              refine lv_iload hx hb d_MD_into_166 (lv_at hl 0 rfl) ?_
                              refine lv_if_ne (tgt := 179) hx hb d_MD_into_168 (by decide) (fun c160 => ?_) (fun c160 => ?_)
                              · rw [if_neg c160] at h
                                refine lv_iload hx hb d_MD_into_179 (lv_at hl 0 rfl) ?_
                                exact W.iret hx hb hr (fun t ht _ => qr_i h ht hW) hW.2.2.2 d_MD_into_181
                              · rw [if_pos c160] at h
                                refine lv_aload_n hx hb d_MD_into_171 rfl (lv_at hl 2 rfl) ?_
                                refine lv_iload_n hx hb d_MD_into_172 rfl (lv_at hl 3 rfl) ?_
                                refine lv_iload_n hx hb d_MD_into_173 rfl (lv_at hl 5 rfl) ?_
                                refine lv_iconst (v := 1) hx hb d_MD_into_174 (by decide) ?_
                                refine lv_iload_n hx hb d_MD_into_175 rfl (lv_at hl 4 rfl) ?_
                                obtain ⟨r161, g_r161, h⟩ := ob_some h
                                refine cl_MD_157 (rest := []) C hD (hml.trans hl.1.symm) hW g_r161 ⟨Nat.le_of_ble_eq_true rfl, Nat.le_of_ble_eq_true rfl⟩ (Nat.le_of_ble_eq_true rfl) d_MD_into_176 ⟨Nat.zero_le _, Nat.zero_le _⟩ (fun H locs hW => ?_)
                                refine lv_iload hx hb d_MD_into_179 (lv_at hl 0 rfl) ?_
                                exact W.iret hx hb hr (fun t ht _ => qr_i h ht hW) hW.2.2.2 d_MD_into_181
                            · rw [if_pos c157] at h
                              refine lv_iconst (v := 5) hx hb d_MD_into_159 (by decide) ?_
                              refine lv_goto (tgt := 164) hx hb d_MD_into_160 (by decide) ?_
                              refine lv_istore (lv' := [(6, .int 5), (5, .int r137), (0, .ref (ad 0)), (1, .int x1), (2, .int x2), (3, .int x3)]) hx hb d_MD_into_164 hl (by decide) rfl (fun ls hl => ?_)
                              refine lv_iload hx hb d_MD_into_166 (lv_at hl 0 rfl) ?_
                              refine lv_if_ne (tgt := 179) hx hb d_MD_into_168 (by decide) (fun c158 => ?_) (fun c158 => ?_)
                              · rw [if_neg c158] at h
                                refine lv_iload hx hb d_MD_into_179 (lv_at hl 0 rfl) ?_
                                exact W.iret hx hb hr (fun t ht _ => qr_i h ht hW) hW.2.2.2 d_MD_into_181
                              · rw [if_pos c158] at h
                                refine lv_aload_n hx hb d_MD_into_171 rfl (lv_at hl 2 rfl) ?_
                                refine lv_iload_n hx hb d_MD_into_172 rfl (lv_at hl 3 rfl) ?_
                                refine lv_iload_n hx hb d_MD_into_173 rfl (lv_at hl 5 rfl) ?_
                                refine lv_iconst (v := 1) hx hb d_MD_into_174 (by decide) ?_
                                refine lv_iload_n hx hb d_MD_into_175 rfl (lv_at hl 4 rfl) ?_
                                obtain ⟨r159, g_r159, h⟩ := ob_some h
                                refine cl_MD_157 (rest := []) C hD (hml.trans hl.1.symm) hW g_r159 ⟨Nat.le_of_ble_eq_true rfl, Nat.le_of_ble_eq_true rfl⟩ (Nat.le_of_ble_eq_true rfl) d_MD_into_176 ⟨Nat.zero_le _, Nat.zero_le _⟩ (fun H locs hW => ?_)
                                refine lv_iload hx hb d_MD_into_179 (lv_at hl 0 rfl) ?_
                                exact W.iret hx hb hr (fun t ht _ => qr_i h ht hW) hW.2.2.2 d_MD_into_181
                        · rw [if_neg c152] at h
                          refine lv_iconst (v := 4) hx hb d_MD_into_138 (by decide) ?_
                          refine lv_goto (tgt := 164) hx hb d_MD_into_139 (by decide) ?_
                          refine lv_istore (lv' := [(6, .int 4), (5, .int r137), (0, .ref (ad 0)), (1, .int x1), (2, .int x2), (3, .int x3)]) hx hb d_MD_into_164 hl (by decide) rfl (fun ls hl => ?_)
                          refine lv_iload hx hb d_MD_into_166 (lv_at hl 0 rfl) ?_
                          refine lv_if_ne (tgt := 179) hx hb d_MD_into_168 (by decide) (fun c153 => ?_) (fun c153 => ?_)
                          · rw [if_neg c153] at h
                            refine lv_iload hx hb d_MD_into_179 (lv_at hl 0 rfl) ?_
                            exact W.iret hx hb hr (fun t ht _ => qr_i h ht hW) hW.2.2.2 d_MD_into_181
                          · rw [if_pos c153] at h
                            refine lv_aload_n hx hb d_MD_into_171 rfl (lv_at hl 2 rfl) ?_
                            refine lv_iload_n hx hb d_MD_into_172 rfl (lv_at hl 3 rfl) ?_
                            refine lv_iload_n hx hb d_MD_into_173 rfl (lv_at hl 5 rfl) ?_
                            refine lv_iconst (v := 1) hx hb d_MD_into_174 (by decide) ?_
                            refine lv_iload_n hx hb d_MD_into_175 rfl (lv_at hl 4 rfl) ?_
                            obtain ⟨r154, g_r154, h⟩ := ob_some h
                            refine cl_MD_157 (rest := []) C hD (hml.trans hl.1.symm) hW g_r154 ⟨Nat.le_of_ble_eq_true rfl, Nat.le_of_ble_eq_true rfl⟩ (Nat.le_of_ble_eq_true rfl) d_MD_into_176 ⟨Nat.zero_le _, Nat.zero_le _⟩ (fun H locs hW => ?_)
                            refine lv_iload hx hb d_MD_into_179 (lv_at hl 0 rfl) ?_
                            exact W.iret hx hb hr (fun t ht _ => qr_i h ht hW) hW.2.2.2 d_MD_into_181
                      · rw [if_neg c147] at h
                        refine lv_iconst (v := 3) hx hb d_MD_into_118 (by decide) ?_
                        refine lv_goto (tgt := 164) hx hb d_MD_into_119 (by decide) ?_
                        refine lv_istore (lv' := [(6, .int 3), (5, .int r137), (0, .ref (ad 0)), (1, .int x1), (2, .int x2), (3, .int x3)]) hx hb d_MD_into_164 hl (by decide) rfl (fun ls hl => ?_)
                        refine lv_iload hx hb d_MD_into_166 (lv_at hl 0 rfl) ?_
                        refine lv_if_ne (tgt := 179) hx hb d_MD_into_168 (by decide) (fun c148 => ?_) (fun c148 => ?_)
                        · rw [if_neg c148] at h
                          refine lv_iload hx hb d_MD_into_179 (lv_at hl 0 rfl) ?_
                          exact W.iret hx hb hr (fun t ht _ => qr_i h ht hW) hW.2.2.2 d_MD_into_181
                        · rw [if_pos c148] at h
                          refine lv_aload_n hx hb d_MD_into_171 rfl (lv_at hl 2 rfl) ?_
                          refine lv_iload_n hx hb d_MD_into_172 rfl (lv_at hl 3 rfl) ?_
                          refine lv_iload_n hx hb d_MD_into_173 rfl (lv_at hl 5 rfl) ?_
                          refine lv_iconst (v := 1) hx hb d_MD_into_174 (by decide) ?_
                          refine lv_iload_n hx hb d_MD_into_175 rfl (lv_at hl 4 rfl) ?_
                          obtain ⟨r149, g_r149, h⟩ := ob_some h
                          refine cl_MD_157 (rest := []) C hD (hml.trans hl.1.symm) hW g_r149 ⟨Nat.le_of_ble_eq_true rfl, Nat.le_of_ble_eq_true rfl⟩ (Nat.le_of_ble_eq_true rfl) d_MD_into_176 ⟨Nat.zero_le _, Nat.zero_le _⟩ (fun H locs hW => ?_)
                          refine lv_iload hx hb d_MD_into_179 (lv_at hl 0 rfl) ?_
                          exact W.iret hx hb hr (fun t ht _ => qr_i h ht hW) hW.2.2.2 d_MD_into_181
                    · rw [if_pos c144] at h
                      refine lv_iconst (v := 2) hx hb d_MD_into_105 (by decide) ?_
                      refine lv_goto (tgt := 164) hx hb d_MD_into_106 (by decide) ?_
                      refine lv_istore (lv' := [(6, .int 2), (5, .int r137), (0, .ref (ad 0)), (1, .int x1), (2, .int x2), (3, .int x3)]) hx hb d_MD_into_164 hl (by decide) rfl (fun ls hl => ?_)
                      refine lv_iload hx hb d_MD_into_166 (lv_at hl 0 rfl) ?_
                      refine lv_if_ne (tgt := 179) hx hb d_MD_into_168 (by decide) (fun c145 => ?_) (fun c145 => ?_)
                      · rw [if_neg c145] at h
                        refine lv_iload hx hb d_MD_into_179 (lv_at hl 0 rfl) ?_
                        exact W.iret hx hb hr (fun t ht _ => qr_i h ht hW) hW.2.2.2 d_MD_into_181
                      · rw [if_pos c145] at h
                        refine lv_aload_n hx hb d_MD_into_171 rfl (lv_at hl 2 rfl) ?_
                        refine lv_iload_n hx hb d_MD_into_172 rfl (lv_at hl 3 rfl) ?_
                        refine lv_iload_n hx hb d_MD_into_173 rfl (lv_at hl 5 rfl) ?_
                        refine lv_iconst (v := 1) hx hb d_MD_into_174 (by decide) ?_
                        refine lv_iload_n hx hb d_MD_into_175 rfl (lv_at hl 4 rfl) ?_
                        obtain ⟨r146, g_r146, h⟩ := ob_some h
                        refine cl_MD_157 (rest := []) C hD (hml.trans hl.1.symm) hW g_r146 ⟨Nat.le_of_ble_eq_true rfl, Nat.le_of_ble_eq_true rfl⟩ (Nat.le_of_ble_eq_true rfl) d_MD_into_176 ⟨Nat.zero_le _, Nat.zero_le _⟩ (fun H locs hW => ?_)
                        refine lv_iload hx hb d_MD_into_179 (lv_at hl 0 rfl) ?_
                        exact W.iret hx hb hr (fun t ht _ => qr_i h ht hW) hW.2.2.2 d_MD_into_181
                  · rw [if_neg c140] at h
                    have k92 : ∀ (x1 : Int32) (x2 : Int32) (x3 : Int32) (σ : Sg) (h : C_MD_into_92 x1 x2 x3 σ = some out) (H : Heap) (locs : List Loc) (hW : WR G ad cI cZ s σ H locs) (ls : Array Slot) (hl : lv_has ls 7 [(0, .ref (ad 0)), (1, .int x1), (2, .int x2), (3, .int x3)]), W p l e (headSpec wl_MD_into ({ frames := 5, cells := 0, slots := 0, locals := 122 } : Room)).room s m (([.ref (ad 0), .int a1, .int a2, .int a3] : List Value).toArray) below meth c H locs 0 0 (MQ below (QRi G ad cI cZ out) (([.ref (ad 0), .int a1, .int a2, .int a3] : List Value).toArray) s 0 0 (AR ad)) (F0 m 92 ls []) := by
                      intro x1 x2 x3 σ h H locs hW ls hl
                      unfold C_MD_into_92 at h
                      refine lv_iconst (v := 1) hx hb d_MD_into_92 (by decide) ?_
                      refine lv_goto (tgt := 164) hx hb d_MD_into_93 (by decide) ?_
                      refine lv_istore (lv' := [(6, .int 1), (0, .ref (ad 0)), (1, .int x1), (2, .int x2), (3, .int x3)]) hx hb d_MD_into_164 hl (by decide) rfl (fun ls hl => ?_)
                      refine lv_iload hx hb d_MD_into_166 (lv_at hl 0 rfl) ?_
                      refine lv_if_ne (tgt := 179) hx hb d_MD_into_168 (by decide) (fun c141 => ?_) (fun c141 => ?_)
                      · rw [if_neg c141] at h
                        refine lv_iload hx hb d_MD_into_179 (lv_at hl 0 rfl) ?_
                        exact W.iret hx hb hr (fun t ht _ => qr_i h ht hW) hW.2.2.2 d_MD_into_181
                      · rw [if_pos c141] at h
                        refine lv_aload_n hx hb d_MD_into_171 rfl (lv_at hl 1 rfl) ?_
                        refine lv_iload_n hx hb d_MD_into_172 rfl (lv_at hl 2 rfl) ?_
                        refine lv_iload_n hx hb d_MD_into_173 rfl (lv_at hl 4 rfl) ?_
                        refine lv_iconst (v := 1) hx hb d_MD_into_174 (by decide) ?_
                        refine lv_iload_n hx hb d_MD_into_175 rfl (lv_at hl 3 rfl) ?_
                        obtain ⟨r142, g_r142, h⟩ := ob_some h
                        refine cl_MD_157 (rest := []) C hD (hml.trans hl.1.symm) hW g_r142 ⟨Nat.le_of_ble_eq_true rfl, Nat.le_of_ble_eq_true rfl⟩ (Nat.le_of_ble_eq_true rfl) d_MD_into_176 ⟨Nat.zero_le _, Nat.zero_le _⟩ (fun H locs hW => ?_)
                        refine lv_iload hx hb d_MD_into_179 (lv_at hl 0 rfl) ?_
                        exact W.iret hx hb hr (fun t ht _ => qr_i h ht hW) hW.2.2.2 d_MD_into_181
                    exact k92 x1 x2 x3 r135.2 h _ _ hW _ (lv_sub hl [1, 2, 3, 4] rfl)
              · rw [if_pos c136] at h
                refine lv_iconst (v := 0) hx hb d_MD_into_63 (by decide) ?_
                exact W.iret hx hb hr (fun t ht _ => qr_i h ht hW) hW.2.2.2 d_MD_into_64
            exact k57 x1 x2 x3 0 r101 s0 σ h _ _ hW _ (lv_sub hl [1, 2, 3, 4] rfl)
          · rw [if_neg c103] at h
            refine lv_iconst (v := 1) hx hb d_MD_into_52 (by decide) ?_
            refine lv_goto (tgt := 57) hx hb d_MD_into_53 (by decide) ?_
            have k57 : ∀ (x1 : Int32) (x2 : Int32) (x3 : Int32) (s0 : Int32) (s1 : Int32) (s2 : Int32) (σ : Sg) (h : C_MD_into_57 x1 x2 x3 s0 s1 s2 σ = some out) (H : Heap) (locs : List Loc) (hW : WR G ad cI cZ s σ H locs) (ls : Array Slot) (hl : lv_has ls 7 [(0, .ref (ad 0)), (1, .int x1), (2, .int x2), (3, .int x3)]), W p l e (headSpec wl_MD_into ({ frames := 5, cells := 0, slots := 0, locals := 122 } : Room)).room s m (([.ref (ad 0), .int a1, .int a2, .int a3] : List Value).toArray) below meth c H locs 0 0 (MQ below (QRi G ad cI cZ out) (([.ref (ad 0), .int a1, .int a2, .int a3] : List Value).toArray) s 0 0 (AR ad)) (F0 m 57 ls [.int s0, .int s1, .int s2, .ref (ad 0)]) := by
              intro x1 x2 x3 s0 s1 s2 σ h H locs hW ls hl
              unfold C_MD_into_57 at h
              obtain ⟨r104, g_r104, h⟩ := ob_some h
              refine cl_MD_102 (rest := []) C hD (hml.trans hl.1.symm) hW g_r104 ⟨Nat.le_of_ble_eq_true rfl, Nat.le_of_ble_eq_true rfl⟩ (Nat.le_of_ble_eq_true rfl) d_MD_into_57 ⟨Nat.zero_le _, Nat.zero_le _⟩ (fun H locs hW => ?_)
              refine lv_if_ne (tgt := 65) hx hb d_MD_into_60 (by decide) (fun c105 => ?_) (fun c105 => ?_)
              · rw [if_neg c105] at h
                refine lv_aload_n hx hb d_MD_into_65 rfl (lv_at hl 0 rfl) ?_
                refine lv_iload_n hx hb d_MD_into_66 rfl (lv_at hl 2 rfl) ?_
                refine lv_iload_n hx hb d_MD_into_67 rfl (lv_at hl 3 rfl) ?_
                obtain ⟨r106, g_r106, h⟩ := ob_some h
                refine cl_MD_130 (rest := []) C (hml.trans hl.1.symm) hW.1 g_r106 ⟨Nat.le_of_ble_eq_true rfl, Nat.le_of_ble_eq_true rfl⟩ (Nat.le_of_ble_eq_true rfl) d_MD_into_68 ⟨Nat.zero_le _, Nat.zero_le _⟩ ?_
                refine lv_istore (lv' := [(5, .int r106), (0, .ref (ad 0)), (1, .int x1), (2, .int x2), (3, .int x3)]) hx hb d_MD_into_71 hl (by decide) rfl (fun ls hl => ?_)
                refine lv_aload_n hx hb d_MD_into_73 rfl (lv_at hl 1 rfl) ?_
                refine gf_MD_25 C hW.1 d_MD_into_74 ?_
                refine lv_iload_n hx hb d_MD_into_77 rfl (lv_at hl 3 rfl) ?_
                obtain ⟨hin, h⟩ := gd_some h
                refine alR_6 C hW.1 hin d_MD_into_78 ?_
                refine lv_if_eq (tgt := 92) hx hb d_MD_into_79 (by decide) (fun c107 => ?_) (fun c107 => ?_)
                · rw [if_pos c107] at h
                  have k92 : ∀ (x1 : Int32) (x2 : Int32) (x3 : Int32) (σ : Sg) (h : C_MD_into_92 x1 x2 x3 σ = some out) (H : Heap) (locs : List Loc) (hW : WR G ad cI cZ s σ H locs) (ls : Array Slot) (hl : lv_has ls 7 [(0, .ref (ad 0)), (1, .int x1), (2, .int x2), (3, .int x3)]), W p l e (headSpec wl_MD_into ({ frames := 5, cells := 0, slots := 0, locals := 122 } : Room)).room s m (([.ref (ad 0), .int a1, .int a2, .int a3] : List Value).toArray) below meth c H locs 0 0 (MQ below (QRi G ad cI cZ out) (([.ref (ad 0), .int a1, .int a2, .int a3] : List Value).toArray) s 0 0 (AR ad)) (F0 m 92 ls []) := by
                    intro x1 x2 x3 σ h H locs hW ls hl
                    unfold C_MD_into_92 at h
                    refine lv_iconst (v := 1) hx hb d_MD_into_92 (by decide) ?_
                    refine lv_goto (tgt := 164) hx hb d_MD_into_93 (by decide) ?_
                    refine lv_istore (lv' := [(6, .int 1), (0, .ref (ad 0)), (1, .int x1), (2, .int x2), (3, .int x3)]) hx hb d_MD_into_164 hl (by decide) rfl (fun ls hl => ?_)
                    refine lv_iload hx hb d_MD_into_166 (lv_at hl 0 rfl) ?_
                    refine lv_if_ne (tgt := 179) hx hb d_MD_into_168 (by decide) (fun c133 => ?_) (fun c133 => ?_)
                    · rw [if_neg c133] at h
                      refine lv_iload hx hb d_MD_into_179 (lv_at hl 0 rfl) ?_
                      exact W.iret hx hb hr (fun t ht _ => qr_i h ht hW) hW.2.2.2 d_MD_into_181
                    · rw [if_pos c133] at h
                      refine lv_aload_n hx hb d_MD_into_171 rfl (lv_at hl 1 rfl) ?_
                      refine lv_iload_n hx hb d_MD_into_172 rfl (lv_at hl 2 rfl) ?_
                      refine lv_iload_n hx hb d_MD_into_173 rfl (lv_at hl 4 rfl) ?_
                      refine lv_iconst (v := 1) hx hb d_MD_into_174 (by decide) ?_
                      refine lv_iload_n hx hb d_MD_into_175 rfl (lv_at hl 3 rfl) ?_
                      obtain ⟨r134, g_r134, h⟩ := ob_some h
                      refine cl_MD_157 (rest := []) C hD (hml.trans hl.1.symm) hW g_r134 ⟨Nat.le_of_ble_eq_true rfl, Nat.le_of_ble_eq_true rfl⟩ (Nat.le_of_ble_eq_true rfl) d_MD_into_176 ⟨Nat.zero_le _, Nat.zero_le _⟩ (fun H locs hW => ?_)
                      refine lv_iload hx hb d_MD_into_179 (lv_at hl 0 rfl) ?_
                      exact W.iret hx hb hr (fun t ht _ => qr_i h ht hW) hW.2.2.2 d_MD_into_181
                  exact k92 x1 x2 x3 r104.2 h _ _ hW _ (lv_sub hl [1, 2, 3, 4] rfl)
                · rw [if_neg c107] at h
                  refine lv_aload_n hx hb d_MD_into_82 rfl (lv_at hl 1 rfl) ?_
                  refine lv_iload_n hx hb d_MD_into_83 rfl (lv_at hl 2 rfl) ?_
                  refine lv_iload_n hx hb d_MD_into_84 rfl (lv_at hl 3 rfl) ?_
                  refine lv_iload_n hx hb d_MD_into_85 rfl (lv_at hl 4 rfl) ?_
                  obtain ⟨r108, g_r108, h⟩ := ob_some h
                  refine cl_MD_164 (rest := []) C (hml.trans hl.1.symm) hW.1 g_r108 ⟨Nat.le_of_ble_eq_true rfl, Nat.le_of_ble_eq_true rfl⟩ (Nat.le_of_ble_eq_true rfl) d_MD_into_86 ⟨Nat.zero_le _, Nat.zero_le _⟩ ?_
                  refine lv_if_eq (tgt := 96) hx hb d_MD_into_89 (by decide) (fun c109 => ?_) (fun c109 => ?_)
                  · rw [if_pos c109] at h
                    refine lv_aload_n hx hb d_MD_into_96 rfl (lv_at hl 1 rfl) ?_
                    refine lv_iload_n hx hb d_MD_into_97 rfl (lv_at hl 2 rfl) ?_
                    refine lv_iload_n hx hb d_MD_into_98 rfl (lv_at hl 3 rfl) ?_
                    obtain ⟨r112, g_r112, h⟩ := ob_some h
                    refine cl_MD_167 (rest := []) C (hml.trans hl.1.symm) hW.1 g_r112 ⟨Nat.le_of_ble_eq_true rfl, Nat.le_of_ble_eq_true rfl⟩ (Nat.le_of_ble_eq_true rfl) d_MD_into_99 ⟨Nat.zero_le _, Nat.zero_le _⟩ ?_
                    refine lv_if_ne (tgt := 109) hx hb d_MD_into_102 (by decide) (fun c113 => ?_) (fun c113 => ?_)
                    · rw [if_neg c113] at h
                      refine lv_aload_n hx hb d_MD_into_109 rfl (lv_at hl 1 rfl) ?_
                      refine gf_MD_22 C hW.1 d_MD_into_110 ?_
                      refine lv_iload_n hx hb d_MD_into_113 rfl (lv_at hl 2 rfl) ?_
                      obtain ⟨hin, h⟩ := gd_some h
                      refine alR_5 C hW.1 hin d_MD_into_114 ?_
                      refine lv_if_le (tgt := 122) hx hb d_MD_into_115 (by decide) (fun c116 => ?_) (fun c116 => ?_)
                      · rw [if_pos c116] at h
                        refine lv_aload_n hx hb d_MD_into_122 rfl (lv_at hl 1 rfl) ?_
                        refine lv_aload_n hx hb d_MD_into_123 rfl (lv_at hl 1 rfl) ?_
                        refine lv_iload_n hx hb d_MD_into_124 rfl (lv_at hl 2 rfl) ?_
                        refine lv_iload_n hx hb d_MD_into_125 rfl (lv_at hl 4 rfl) ?_
                        obtain ⟨r119, g_r119, h⟩ := ob_some h
                        refine cl_MD_130 (rest := [.ref (ad 0)]) C (hml.trans hl.1.symm) hW.1 g_r119 ⟨Nat.le_of_ble_eq_true rfl, Nat.le_of_ble_eq_true rfl⟩ (Nat.le_of_ble_eq_true rfl) d_MD_into_126 ⟨Nat.zero_le _, Nat.zero_le _⟩ ?_
                        refine lv_iload hx hb d_MD_into_129 (lv_at hl 0 rfl) ?_
                        refine lv_iload_n hx hb d_MD_into_131 rfl (lv_at hl 4 rfl) ?_
                        obtain ⟨r120, g_r120, h⟩ := ob_some h
                        refine cl_MD_151 (rest := []) C (hml.trans hl.1.symm) hW.1 g_r120 ⟨Nat.le_of_ble_eq_true rfl, Nat.le_of_ble_eq_true rfl⟩ (Nat.le_of_ble_eq_true rfl) d_MD_into_132 ⟨Nat.zero_le _, Nat.zero_le _⟩ ?_
                        refine lv_if_eq (tgt := 142) hx hb d_MD_into_135 (by decide) (fun c121 => ?_) (fun c121 => ?_)
                        · rw [if_pos c121] at h
                          refine lv_iload hx hb d_MD_into_142 (lv_at hl 0 rfl) ?_
                          refine lv_iconst (v := (-1)) hx hb d_MD_into_144 (by decide) ?_
                          refine lv_icmp_eq (tgt := 163) hx hb d_MD_into_145 (by decide) (fun c124 => ?_) (fun c124 => ?_)
                          · rw [if_pos c124] at h
                            refine lv_iconst (v := 0) hx hb d_MD_into_163 (by decide) ?_
                            refine lv_istore (lv' := [(6, .int 0), (5, .int r106), (0, .ref (ad 0)), (1, .int x1), (2, .int x2), (3, .int x3)]) hx hb d_MD_into_164 hl (by decide) rfl (fun ls hl => ?_)
                            refine lv_iload hx hb d_MD_into_166 (lv_at hl 0 rfl) ?_
                            refine lv_if_ne (tgt := 179) hx hb d_MD_into_168 (by decide) (fun c131 => ?_) (fun c131 => ?_)
                            · rw [if_neg c131] at h
                              refine lv_iload hx hb d_MD_into_179 (lv_at hl 0 rfl) ?_
                              exact W.iret hx hb hr (fun t ht _ => qr_i h ht hW) hW.2.2.2 d_MD_into_181
                            · rw [if_pos c131] at h
                              refine lv_aload_n hx hb d_MD_into_171 rfl (lv_at hl 2 rfl) ?_
                              refine lv_iload_n hx hb d_MD_into_172 rfl (lv_at hl 3 rfl) ?_
                              refine lv_iload_n hx hb d_MD_into_173 rfl (lv_at hl 5 rfl) ?_
                              refine lv_iconst (v := 1) hx hb d_MD_into_174 (by decide) ?_
                              refine lv_iload_n hx hb d_MD_into_175 rfl (lv_at hl 4 rfl) ?_
                              obtain ⟨r132, g_r132, h⟩ := ob_some h
                              refine cl_MD_157 (rest := []) C hD (hml.trans hl.1.symm) hW g_r132 ⟨Nat.le_of_ble_eq_true rfl, Nat.le_of_ble_eq_true rfl⟩ (Nat.le_of_ble_eq_true rfl) d_MD_into_176 ⟨Nat.zero_le _, Nat.zero_le _⟩ (fun H locs hW => ?_)
                              refine lv_iload hx hb d_MD_into_179 (lv_at hl 0 rfl) ?_
                              exact W.iret hx hb hr (fun t ht _ => qr_i h ht hW) hW.2.2.2 d_MD_into_181
                          · rw [if_neg c124] at h
                            refine lv_aload_n hx hb d_MD_into_148 rfl (lv_at hl 1 rfl) ?_
                            refine lv_iload_n hx hb d_MD_into_149 rfl (lv_at hl 2 rfl) ?_
                            refine lv_iload hx hb d_MD_into_150 (lv_at hl 0 rfl) ?_
                            refine lv_iload_n hx hb d_MD_into_152 rfl (lv_at hl 4 rfl) ?_
                            obtain ⟨r125, g_r125, h⟩ := ob_some h
                            refine cl_MD_154 (rest := []) C hD (hml.trans hl.1.symm) hW g_r125 ⟨Nat.le_of_ble_eq_true rfl, Nat.le_of_ble_eq_true rfl⟩ (Nat.le_of_ble_eq_true rfl) d_MD_into_153 ⟨Nat.zero_le _, Nat.zero_le _⟩ (fun H locs hW => ?_)
                            refine lv_if_ne (tgt := 163) hx hb d_MD_into_156 (by decide) (fun c126 => ?_) (fun c126 => ?_)
                            · rw [if_neg c126] at h
                              refine lv_iconst (v := 0) hx hb d_MD_into_163 (by decide) ?_
                              refine lv_istore (lv' := [(6, .int 0), (5, .int r106), (0, .ref (ad 0)), (1, .int x1), (2, .int x2), (3, .int x3)]) hx hb d_MD_into_164 hl (by decide) rfl (fun ls hl => ?_)
                              refine lv_iload hx hb d_MD_into_166 (lv_at hl 0 rfl) ?_
                              refine lv_if_ne (tgt := 179) hx hb d_MD_into_168 (by decide) (fun c129 => ?_) (fun c129 => ?_)
                              · rw [if_neg c129] at h
                                refine lv_iload hx hb d_MD_into_179 (lv_at hl 0 rfl) ?_
                                exact W.iret hx hb hr (fun t ht _ => qr_i h ht hW) hW.2.2.2 d_MD_into_181
                              · rw [if_pos c129] at h
                                refine lv_aload_n hx hb d_MD_into_171 rfl (lv_at hl 2 rfl) ?_
                                refine lv_iload_n hx hb d_MD_into_172 rfl (lv_at hl 3 rfl) ?_
                                refine lv_iload_n hx hb d_MD_into_173 rfl (lv_at hl 5 rfl) ?_
                                refine lv_iconst (v := 1) hx hb d_MD_into_174 (by decide) ?_
                                refine lv_iload_n hx hb d_MD_into_175 rfl (lv_at hl 4 rfl) ?_
                                obtain ⟨r130, g_r130, h⟩ := ob_some h
                                refine cl_MD_157 (rest := []) C hD (hml.trans hl.1.symm) hW g_r130 ⟨Nat.le_of_ble_eq_true rfl, Nat.le_of_ble_eq_true rfl⟩ (Nat.le_of_ble_eq_true rfl) d_MD_into_176 ⟨Nat.zero_le _, Nat.zero_le _⟩ (fun H locs hW => ?_)
                                refine lv_iload hx hb d_MD_into_179 (lv_at hl 0 rfl) ?_
                                exact W.iret hx hb hr (fun t ht _ => qr_i h ht hW) hW.2.2.2 d_MD_into_181
                            · rw [if_pos c126] at h
                              refine lv_iconst (v := 5) hx hb d_MD_into_159 (by decide) ?_
                              refine lv_goto (tgt := 164) hx hb d_MD_into_160 (by decide) ?_
                              refine lv_istore (lv' := [(6, .int 5), (5, .int r106), (0, .ref (ad 0)), (1, .int x1), (2, .int x2), (3, .int x3)]) hx hb d_MD_into_164 hl (by decide) rfl (fun ls hl => ?_)
                              refine lv_iload hx hb d_MD_into_166 (lv_at hl 0 rfl) ?_
                              refine lv_if_ne (tgt := 179) hx hb d_MD_into_168 (by decide) (fun c127 => ?_) (fun c127 => ?_)
                              · rw [if_neg c127] at h
                                refine lv_iload hx hb d_MD_into_179 (lv_at hl 0 rfl) ?_
                                exact W.iret hx hb hr (fun t ht _ => qr_i h ht hW) hW.2.2.2 d_MD_into_181
                              · rw [if_pos c127] at h
                                refine lv_aload_n hx hb d_MD_into_171 rfl (lv_at hl 2 rfl) ?_
                                refine lv_iload_n hx hb d_MD_into_172 rfl (lv_at hl 3 rfl) ?_
                                refine lv_iload_n hx hb d_MD_into_173 rfl (lv_at hl 5 rfl) ?_
                                refine lv_iconst (v := 1) hx hb d_MD_into_174 (by decide) ?_
                                refine lv_iload_n hx hb d_MD_into_175 rfl (lv_at hl 4 rfl) ?_
                                obtain ⟨r128, g_r128, h⟩ := ob_some h
                                refine cl_MD_157 (rest := []) C hD (hml.trans hl.1.symm) hW g_r128 ⟨Nat.le_of_ble_eq_true rfl, Nat.le_of_ble_eq_true rfl⟩ (Nat.le_of_ble_eq_true rfl) d_MD_into_176 ⟨Nat.zero_le _, Nat.zero_le _⟩ (fun H locs hW => ?_)
                                refine lv_iload hx hb d_MD_into_179 (lv_at hl 0 rfl) ?_
                                exact W.iret hx hb hr (fun t ht _ => qr_i h ht hW) hW.2.2.2 d_MD_into_181
                        · rw [if_neg c121] at h
                          refine lv_iconst (v := 4) hx hb d_MD_into_138 (by decide) ?_
                          refine lv_goto (tgt := 164) hx hb d_MD_into_139 (by decide) ?_
                          refine lv_istore (lv' := [(6, .int 4), (5, .int r106), (0, .ref (ad 0)), (1, .int x1), (2, .int x2), (3, .int x3)]) hx hb d_MD_into_164 hl (by decide) rfl (fun ls hl => ?_)
                          refine lv_iload hx hb d_MD_into_166 (lv_at hl 0 rfl) ?_
                          refine lv_if_ne (tgt := 179) hx hb d_MD_into_168 (by decide) (fun c122 => ?_) (fun c122 => ?_)
                          · rw [if_neg c122] at h
                            refine lv_iload hx hb d_MD_into_179 (lv_at hl 0 rfl) ?_
                            exact W.iret hx hb hr (fun t ht _ => qr_i h ht hW) hW.2.2.2 d_MD_into_181
                          · rw [if_pos c122] at h
                            refine lv_aload_n hx hb d_MD_into_171 rfl (lv_at hl 2 rfl) ?_
                            refine lv_iload_n hx hb d_MD_into_172 rfl (lv_at hl 3 rfl) ?_
                            refine lv_iload_n hx hb d_MD_into_173 rfl (lv_at hl 5 rfl) ?_
                            refine lv_iconst (v := 1) hx hb d_MD_into_174 (by decide) ?_
                            refine lv_iload_n hx hb d_MD_into_175 rfl (lv_at hl 4 rfl) ?_
                            obtain ⟨r123, g_r123, h⟩ := ob_some h
                            refine cl_MD_157 (rest := []) C hD (hml.trans hl.1.symm) hW g_r123 ⟨Nat.le_of_ble_eq_true rfl, Nat.le_of_ble_eq_true rfl⟩ (Nat.le_of_ble_eq_true rfl) d_MD_into_176 ⟨Nat.zero_le _, Nat.zero_le _⟩ (fun H locs hW => ?_)
                            refine lv_iload hx hb d_MD_into_179 (lv_at hl 0 rfl) ?_
                            exact W.iret hx hb hr (fun t ht _ => qr_i h ht hW) hW.2.2.2 d_MD_into_181
                      · rw [if_neg c116] at h
                        refine lv_iconst (v := 3) hx hb d_MD_into_118 (by decide) ?_
                        refine lv_goto (tgt := 164) hx hb d_MD_into_119 (by decide) ?_
                        refine lv_istore (lv' := [(6, .int 3), (5, .int r106), (0, .ref (ad 0)), (1, .int x1), (2, .int x2), (3, .int x3)]) hx hb d_MD_into_164 hl (by decide) rfl (fun ls hl => ?_)
                        refine lv_iload hx hb d_MD_into_166 (lv_at hl 0 rfl) ?_
                        refine lv_if_ne (tgt := 179) hx hb d_MD_into_168 (by decide) (fun c117 => ?_) (fun c117 => ?_)
                        · rw [if_neg c117] at h
                          refine lv_iload hx hb d_MD_into_179 (lv_at hl 0 rfl) ?_
                          exact W.iret hx hb hr (fun t ht _ => qr_i h ht hW) hW.2.2.2 d_MD_into_181
                        · rw [if_pos c117] at h
                          refine lv_aload_n hx hb d_MD_into_171 rfl (lv_at hl 2 rfl) ?_
                          refine lv_iload_n hx hb d_MD_into_172 rfl (lv_at hl 3 rfl) ?_
                          refine lv_iload_n hx hb d_MD_into_173 rfl (lv_at hl 5 rfl) ?_
                          refine lv_iconst (v := 1) hx hb d_MD_into_174 (by decide) ?_
                          refine lv_iload_n hx hb d_MD_into_175 rfl (lv_at hl 4 rfl) ?_
                          obtain ⟨r118, g_r118, h⟩ := ob_some h
                          refine cl_MD_157 (rest := []) C hD (hml.trans hl.1.symm) hW g_r118 ⟨Nat.le_of_ble_eq_true rfl, Nat.le_of_ble_eq_true rfl⟩ (Nat.le_of_ble_eq_true rfl) d_MD_into_176 ⟨Nat.zero_le _, Nat.zero_le _⟩ (fun H locs hW => ?_)
                          refine lv_iload hx hb d_MD_into_179 (lv_at hl 0 rfl) ?_
                          exact W.iret hx hb hr (fun t ht _ => qr_i h ht hW) hW.2.2.2 d_MD_into_181
                    · rw [if_pos c113] at h
                      refine lv_iconst (v := 2) hx hb d_MD_into_105 (by decide) ?_
                      refine lv_goto (tgt := 164) hx hb d_MD_into_106 (by decide) ?_
                      refine lv_istore (lv' := [(6, .int 2), (5, .int r106), (0, .ref (ad 0)), (1, .int x1), (2, .int x2), (3, .int x3)]) hx hb d_MD_into_164 hl (by decide) rfl (fun ls hl => ?_)
                      refine lv_iload hx hb d_MD_into_166 (lv_at hl 0 rfl) ?_
                      refine lv_if_ne (tgt := 179) hx hb d_MD_into_168 (by decide) (fun c114 => ?_) (fun c114 => ?_)
                      · rw [if_neg c114] at h
                        refine lv_iload hx hb d_MD_into_179 (lv_at hl 0 rfl) ?_
                        exact W.iret hx hb hr (fun t ht _ => qr_i h ht hW) hW.2.2.2 d_MD_into_181
                      · rw [if_pos c114] at h
                        refine lv_aload_n hx hb d_MD_into_171 rfl (lv_at hl 2 rfl) ?_
                        refine lv_iload_n hx hb d_MD_into_172 rfl (lv_at hl 3 rfl) ?_
                        refine lv_iload_n hx hb d_MD_into_173 rfl (lv_at hl 5 rfl) ?_
                        refine lv_iconst (v := 1) hx hb d_MD_into_174 (by decide) ?_
                        refine lv_iload_n hx hb d_MD_into_175 rfl (lv_at hl 4 rfl) ?_
                        obtain ⟨r115, g_r115, h⟩ := ob_some h
                        refine cl_MD_157 (rest := []) C hD (hml.trans hl.1.symm) hW g_r115 ⟨Nat.le_of_ble_eq_true rfl, Nat.le_of_ble_eq_true rfl⟩ (Nat.le_of_ble_eq_true rfl) d_MD_into_176 ⟨Nat.zero_le _, Nat.zero_le _⟩ (fun H locs hW => ?_)
                        refine lv_iload hx hb d_MD_into_179 (lv_at hl 0 rfl) ?_
                        exact W.iret hx hb hr (fun t ht _ => qr_i h ht hW) hW.2.2.2 d_MD_into_181
                  · rw [if_neg c109] at h
                    have k92 : ∀ (x1 : Int32) (x2 : Int32) (x3 : Int32) (σ : Sg) (h : C_MD_into_92 x1 x2 x3 σ = some out) (H : Heap) (locs : List Loc) (hW : WR G ad cI cZ s σ H locs) (ls : Array Slot) (hl : lv_has ls 7 [(0, .ref (ad 0)), (1, .int x1), (2, .int x2), (3, .int x3)]), W p l e (headSpec wl_MD_into ({ frames := 5, cells := 0, slots := 0, locals := 122 } : Room)).room s m (([.ref (ad 0), .int a1, .int a2, .int a3] : List Value).toArray) below meth c H locs 0 0 (MQ below (QRi G ad cI cZ out) (([.ref (ad 0), .int a1, .int a2, .int a3] : List Value).toArray) s 0 0 (AR ad)) (F0 m 92 ls []) := by
                      intro x1 x2 x3 σ h H locs hW ls hl
                      unfold C_MD_into_92 at h
                      refine lv_iconst (v := 1) hx hb d_MD_into_92 (by decide) ?_
                      refine lv_goto (tgt := 164) hx hb d_MD_into_93 (by decide) ?_
                      refine lv_istore (lv' := [(6, .int 1), (0, .ref (ad 0)), (1, .int x1), (2, .int x2), (3, .int x3)]) hx hb d_MD_into_164 hl (by decide) rfl (fun ls hl => ?_)
                      refine lv_iload hx hb d_MD_into_166 (lv_at hl 0 rfl) ?_
                      refine lv_if_ne (tgt := 179) hx hb d_MD_into_168 (by decide) (fun c110 => ?_) (fun c110 => ?_)
                      · rw [if_neg c110] at h
                        refine lv_iload hx hb d_MD_into_179 (lv_at hl 0 rfl) ?_
                        exact W.iret hx hb hr (fun t ht _ => qr_i h ht hW) hW.2.2.2 d_MD_into_181
                      · rw [if_pos c110] at h
                        refine lv_aload_n hx hb d_MD_into_171 rfl (lv_at hl 1 rfl) ?_
                        refine lv_iload_n hx hb d_MD_into_172 rfl (lv_at hl 2 rfl) ?_
                        refine lv_iload_n hx hb d_MD_into_173 rfl (lv_at hl 4 rfl) ?_
                        refine lv_iconst (v := 1) hx hb d_MD_into_174 (by decide) ?_
                        refine lv_iload_n hx hb d_MD_into_175 rfl (lv_at hl 3 rfl) ?_
                        obtain ⟨r111, g_r111, h⟩ := ob_some h
                        refine cl_MD_157 (rest := []) C hD (hml.trans hl.1.symm) hW g_r111 ⟨Nat.le_of_ble_eq_true rfl, Nat.le_of_ble_eq_true rfl⟩ (Nat.le_of_ble_eq_true rfl) d_MD_into_176 ⟨Nat.zero_le _, Nat.zero_le _⟩ (fun H locs hW => ?_)
                        refine lv_iload hx hb d_MD_into_179 (lv_at hl 0 rfl) ?_
                        exact W.iret hx hb hr (fun t ht _ => qr_i h ht hW) hW.2.2.2 d_MD_into_181
                    exact k92 x1 x2 x3 r104.2 h _ _ hW _ (lv_sub hl [1, 2, 3, 4] rfl)
              · rw [if_pos c105] at h
                refine lv_iconst (v := 0) hx hb d_MD_into_63 (by decide) ?_
                exact W.iret hx hb hr (fun t ht _ => qr_i h ht hW) hW.2.2.2 d_MD_into_64
            exact k57 x1 x2 x3 1 r101 s0 σ h _ _ hW _ (lv_sub hl [1, 2, 3, 4] rfl)
      exact k21 a1 a2 a3 0 σ h _ _ hW _ (lv_sub hl [0, 1, 2, 3] rfl)
    · rw [if_neg c4] at h
      refine lv_iconst (v := 1) hx hb d_MD_into_16 (by decide) ?_
      refine lv_goto (tgt := 21) hx hb d_MD_into_17 (by decide) ?_
      have k21 : ∀ (x1 : Int32) (x2 : Int32) (x3 : Int32) (s0 : Int32) (σ : Sg) (h : C_MD_into_21 x1 x2 x3 s0 σ = some out) (H : Heap) (locs : List Loc) (hW : WR G ad cI cZ s σ H locs) (ls : Array Slot) (hl : lv_has ls 7 [(0, .ref (ad 0)), (1, .int x1), (2, .int x2), (3, .int x3)]), W p l e (headSpec wl_MD_into ({ frames := 5, cells := 0, slots := 0, locals := 122 } : Room)).room s m (([.ref (ad 0), .int a1, .int a2, .int a3] : List Value).toArray) below meth c H locs 0 0 (MQ below (QRi G ad cI cZ out) (([.ref (ad 0), .int a1, .int a2, .int a3] : List Value).toArray) s 0 0 (AR ad)) (F0 m 21 ls [.int s0]) := by
        intro x1 x2 x3 s0 σ h H locs hW ls hl
        unfold C_MD_into_21 at h
        refine lv_istore (lv' := [(4, .int s0), (0, .ref (ad 0)), (1, .int x1), (2, .int x2), (3, .int x3)]) hx hb d_MD_into_21 hl (by decide) rfl (fun ls hl => ?_)
        refine lv_aload_n hx hb d_MD_into_23 rfl (lv_at hl 1 rfl) ?_
        refine lv_iload hx hb d_MD_into_24 (lv_at hl 0 rfl) ?_
        refine lv_iload_n hx hb d_MD_into_26 rfl (lv_at hl 4 rfl) ?_
        refine lv_aload_n hx hb d_MD_into_27 rfl (lv_at hl 1 rfl) ?_
        refine gf_MD_145 C hW.1 d_MD_into_28 ?_
        refine lv_ldc (v := 1000000) hx hb hown (hts _ w_724) d_MD_into_31 ?_
        obtain ⟨r5, g_r5, h⟩ := ob_some h
        refine cl_MD_98 (rest := [.int s0, .ref (ad 0)]) C (hml.trans hl.1.symm) hW.1 g_r5 ⟨Nat.le_of_ble_eq_true rfl, Nat.le_of_ble_eq_true rfl⟩ (Nat.le_of_ble_eq_true rfl) d_MD_into_33 ⟨Nat.zero_le _, Nat.zero_le _⟩ ?_
        refine lv_iload hx hb d_MD_into_36 (lv_at hl 0 rfl) ?_
        refine lv_if_eq (tgt := 56) hx hb d_MD_into_38 (by decide) (fun c6 => ?_) (fun c6 => ?_)
        · rw [if_pos c6] at h
          refine lv_iconst (v := 0) hx hb d_MD_into_56 (by decide) ?_
          have k57 : ∀ (x1 : Int32) (x2 : Int32) (x3 : Int32) (s0 : Int32) (s1 : Int32) (s2 : Int32) (σ : Sg) (h : C_MD_into_57 x1 x2 x3 s0 s1 s2 σ = some out) (H : Heap) (locs : List Loc) (hW : WR G ad cI cZ s σ H locs) (ls : Array Slot) (hl : lv_has ls 7 [(0, .ref (ad 0)), (1, .int x1), (2, .int x2), (3, .int x3)]), W p l e (headSpec wl_MD_into ({ frames := 5, cells := 0, slots := 0, locals := 122 } : Room)).room s m (([.ref (ad 0), .int a1, .int a2, .int a3] : List Value).toArray) below meth c H locs 0 0 (MQ below (QRi G ad cI cZ out) (([.ref (ad 0), .int a1, .int a2, .int a3] : List Value).toArray) s 0 0 (AR ad)) (F0 m 57 ls [.int s0, .int s1, .int s2, .ref (ad 0)]) := by
            intro x1 x2 x3 s0 s1 s2 σ h H locs hW ls hl
            unfold C_MD_into_57 at h
            obtain ⟨r70, g_r70, h⟩ := ob_some h
            refine cl_MD_102 (rest := []) C hD (hml.trans hl.1.symm) hW g_r70 ⟨Nat.le_of_ble_eq_true rfl, Nat.le_of_ble_eq_true rfl⟩ (Nat.le_of_ble_eq_true rfl) d_MD_into_57 ⟨Nat.zero_le _, Nat.zero_le _⟩ (fun H locs hW => ?_)
            refine lv_if_ne (tgt := 65) hx hb d_MD_into_60 (by decide) (fun c71 => ?_) (fun c71 => ?_)
            · rw [if_neg c71] at h
              refine lv_aload_n hx hb d_MD_into_65 rfl (lv_at hl 0 rfl) ?_
              refine lv_iload_n hx hb d_MD_into_66 rfl (lv_at hl 2 rfl) ?_
              refine lv_iload_n hx hb d_MD_into_67 rfl (lv_at hl 3 rfl) ?_
              obtain ⟨r72, g_r72, h⟩ := ob_some h
              refine cl_MD_130 (rest := []) C (hml.trans hl.1.symm) hW.1 g_r72 ⟨Nat.le_of_ble_eq_true rfl, Nat.le_of_ble_eq_true rfl⟩ (Nat.le_of_ble_eq_true rfl) d_MD_into_68 ⟨Nat.zero_le _, Nat.zero_le _⟩ ?_
              refine lv_istore (lv' := [(5, .int r72), (0, .ref (ad 0)), (1, .int x1), (2, .int x2), (3, .int x3)]) hx hb d_MD_into_71 hl (by decide) rfl (fun ls hl => ?_)
              refine lv_aload_n hx hb d_MD_into_73 rfl (lv_at hl 1 rfl) ?_
              refine gf_MD_25 C hW.1 d_MD_into_74 ?_
              refine lv_iload_n hx hb d_MD_into_77 rfl (lv_at hl 3 rfl) ?_
              obtain ⟨hin, h⟩ := gd_some h
              refine alR_6 C hW.1 hin d_MD_into_78 ?_
              refine lv_if_eq (tgt := 92) hx hb d_MD_into_79 (by decide) (fun c73 => ?_) (fun c73 => ?_)
              · rw [if_pos c73] at h
                have k92 : ∀ (x1 : Int32) (x2 : Int32) (x3 : Int32) (σ : Sg) (h : C_MD_into_92 x1 x2 x3 σ = some out) (H : Heap) (locs : List Loc) (hW : WR G ad cI cZ s σ H locs) (ls : Array Slot) (hl : lv_has ls 7 [(0, .ref (ad 0)), (1, .int x1), (2, .int x2), (3, .int x3)]), W p l e (headSpec wl_MD_into ({ frames := 5, cells := 0, slots := 0, locals := 122 } : Room)).room s m (([.ref (ad 0), .int a1, .int a2, .int a3] : List Value).toArray) below meth c H locs 0 0 (MQ below (QRi G ad cI cZ out) (([.ref (ad 0), .int a1, .int a2, .int a3] : List Value).toArray) s 0 0 (AR ad)) (F0 m 92 ls []) := by
                  intro x1 x2 x3 σ h H locs hW ls hl
                  unfold C_MD_into_92 at h
                  refine lv_iconst (v := 1) hx hb d_MD_into_92 (by decide) ?_
                  refine lv_goto (tgt := 164) hx hb d_MD_into_93 (by decide) ?_
                  refine lv_istore (lv' := [(6, .int 1), (0, .ref (ad 0)), (1, .int x1), (2, .int x2), (3, .int x3)]) hx hb d_MD_into_164 hl (by decide) rfl (fun ls hl => ?_)
                  refine lv_iload hx hb d_MD_into_166 (lv_at hl 0 rfl) ?_
                  refine lv_if_ne (tgt := 179) hx hb d_MD_into_168 (by decide) (fun c99 => ?_) (fun c99 => ?_)
                  · rw [if_neg c99] at h
                    refine lv_iload hx hb d_MD_into_179 (lv_at hl 0 rfl) ?_
                    exact W.iret hx hb hr (fun t ht _ => qr_i h ht hW) hW.2.2.2 d_MD_into_181
                  · rw [if_pos c99] at h
                    refine lv_aload_n hx hb d_MD_into_171 rfl (lv_at hl 1 rfl) ?_
                    refine lv_iload_n hx hb d_MD_into_172 rfl (lv_at hl 2 rfl) ?_
                    refine lv_iload_n hx hb d_MD_into_173 rfl (lv_at hl 4 rfl) ?_
                    refine lv_iconst (v := 1) hx hb d_MD_into_174 (by decide) ?_
                    refine lv_iload_n hx hb d_MD_into_175 rfl (lv_at hl 3 rfl) ?_
                    obtain ⟨r100, g_r100, h⟩ := ob_some h
                    refine cl_MD_157 (rest := []) C hD (hml.trans hl.1.symm) hW g_r100 ⟨Nat.le_of_ble_eq_true rfl, Nat.le_of_ble_eq_true rfl⟩ (Nat.le_of_ble_eq_true rfl) d_MD_into_176 ⟨Nat.zero_le _, Nat.zero_le _⟩ (fun H locs hW => ?_)
                    refine lv_iload hx hb d_MD_into_179 (lv_at hl 0 rfl) ?_
                    exact W.iret hx hb hr (fun t ht _ => qr_i h ht hW) hW.2.2.2 d_MD_into_181
                exact k92 x1 x2 x3 r70.2 h _ _ hW _ (lv_sub hl [1, 2, 3, 4] rfl)
              · rw [if_neg c73] at h
                refine lv_aload_n hx hb d_MD_into_82 rfl (lv_at hl 1 rfl) ?_
                refine lv_iload_n hx hb d_MD_into_83 rfl (lv_at hl 2 rfl) ?_
                refine lv_iload_n hx hb d_MD_into_84 rfl (lv_at hl 3 rfl) ?_
                refine lv_iload_n hx hb d_MD_into_85 rfl (lv_at hl 4 rfl) ?_
                obtain ⟨r74, g_r74, h⟩ := ob_some h
                refine cl_MD_164 (rest := []) C (hml.trans hl.1.symm) hW.1 g_r74 ⟨Nat.le_of_ble_eq_true rfl, Nat.le_of_ble_eq_true rfl⟩ (Nat.le_of_ble_eq_true rfl) d_MD_into_86 ⟨Nat.zero_le _, Nat.zero_le _⟩ ?_
                refine lv_if_eq (tgt := 96) hx hb d_MD_into_89 (by decide) (fun c75 => ?_) (fun c75 => ?_)
                · rw [if_pos c75] at h
                  refine lv_aload_n hx hb d_MD_into_96 rfl (lv_at hl 1 rfl) ?_
                  refine lv_iload_n hx hb d_MD_into_97 rfl (lv_at hl 2 rfl) ?_
                  refine lv_iload_n hx hb d_MD_into_98 rfl (lv_at hl 3 rfl) ?_
                  obtain ⟨r78, g_r78, h⟩ := ob_some h
                  refine cl_MD_167 (rest := []) C (hml.trans hl.1.symm) hW.1 g_r78 ⟨Nat.le_of_ble_eq_true rfl, Nat.le_of_ble_eq_true rfl⟩ (Nat.le_of_ble_eq_true rfl) d_MD_into_99 ⟨Nat.zero_le _, Nat.zero_le _⟩ ?_
                  refine lv_if_ne (tgt := 109) hx hb d_MD_into_102 (by decide) (fun c79 => ?_) (fun c79 => ?_)
                  · rw [if_neg c79] at h
                    refine lv_aload_n hx hb d_MD_into_109 rfl (lv_at hl 1 rfl) ?_
                    refine gf_MD_22 C hW.1 d_MD_into_110 ?_
                    refine lv_iload_n hx hb d_MD_into_113 rfl (lv_at hl 2 rfl) ?_
                    obtain ⟨hin, h⟩ := gd_some h
                    refine alR_5 C hW.1 hin d_MD_into_114 ?_
                    refine lv_if_le (tgt := 122) hx hb d_MD_into_115 (by decide) (fun c82 => ?_) (fun c82 => ?_)
                    · rw [if_pos c82] at h
                      refine lv_aload_n hx hb d_MD_into_122 rfl (lv_at hl 1 rfl) ?_
                      refine lv_aload_n hx hb d_MD_into_123 rfl (lv_at hl 1 rfl) ?_
                      refine lv_iload_n hx hb d_MD_into_124 rfl (lv_at hl 2 rfl) ?_
                      refine lv_iload_n hx hb d_MD_into_125 rfl (lv_at hl 4 rfl) ?_
                      obtain ⟨r85, g_r85, h⟩ := ob_some h
                      refine cl_MD_130 (rest := [.ref (ad 0)]) C (hml.trans hl.1.symm) hW.1 g_r85 ⟨Nat.le_of_ble_eq_true rfl, Nat.le_of_ble_eq_true rfl⟩ (Nat.le_of_ble_eq_true rfl) d_MD_into_126 ⟨Nat.zero_le _, Nat.zero_le _⟩ ?_
                      refine lv_iload hx hb d_MD_into_129 (lv_at hl 0 rfl) ?_
                      refine lv_iload_n hx hb d_MD_into_131 rfl (lv_at hl 4 rfl) ?_
                      obtain ⟨r86, g_r86, h⟩ := ob_some h
                      refine cl_MD_151 (rest := []) C (hml.trans hl.1.symm) hW.1 g_r86 ⟨Nat.le_of_ble_eq_true rfl, Nat.le_of_ble_eq_true rfl⟩ (Nat.le_of_ble_eq_true rfl) d_MD_into_132 ⟨Nat.zero_le _, Nat.zero_le _⟩ ?_
                      refine lv_if_eq (tgt := 142) hx hb d_MD_into_135 (by decide) (fun c87 => ?_) (fun c87 => ?_)
                      · rw [if_pos c87] at h
                        refine lv_iload hx hb d_MD_into_142 (lv_at hl 0 rfl) ?_
                        refine lv_iconst (v := (-1)) hx hb d_MD_into_144 (by decide) ?_
                        refine lv_icmp_eq (tgt := 163) hx hb d_MD_into_145 (by decide) (fun c90 => ?_) (fun c90 => ?_)
                        · rw [if_pos c90] at h
                          refine lv_iconst (v := 0) hx hb d_MD_into_163 (by decide) ?_
                          refine lv_istore (lv' := [(6, .int 0), (5, .int r72), (0, .ref (ad 0)), (1, .int x1), (2, .int x2), (3, .int x3)]) hx hb d_MD_into_164 hl (by decide) rfl (fun ls hl => ?_)
                          refine lv_iload hx hb d_MD_into_166 (lv_at hl 0 rfl) ?_
                          refine lv_if_ne (tgt := 179) hx hb d_MD_into_168 (by decide) (fun c97 => ?_) (fun c97 => ?_)
                          · rw [if_neg c97] at h
                            refine lv_iload hx hb d_MD_into_179 (lv_at hl 0 rfl) ?_
                            exact W.iret hx hb hr (fun t ht _ => qr_i h ht hW) hW.2.2.2 d_MD_into_181
                          · rw [if_pos c97] at h
                            refine lv_aload_n hx hb d_MD_into_171 rfl (lv_at hl 2 rfl) ?_
                            refine lv_iload_n hx hb d_MD_into_172 rfl (lv_at hl 3 rfl) ?_
                            refine lv_iload_n hx hb d_MD_into_173 rfl (lv_at hl 5 rfl) ?_
                            refine lv_iconst (v := 1) hx hb d_MD_into_174 (by decide) ?_
                            refine lv_iload_n hx hb d_MD_into_175 rfl (lv_at hl 4 rfl) ?_
                            obtain ⟨r98, g_r98, h⟩ := ob_some h
                            refine cl_MD_157 (rest := []) C hD (hml.trans hl.1.symm) hW g_r98 ⟨Nat.le_of_ble_eq_true rfl, Nat.le_of_ble_eq_true rfl⟩ (Nat.le_of_ble_eq_true rfl) d_MD_into_176 ⟨Nat.zero_le _, Nat.zero_le _⟩ (fun H locs hW => ?_)
                            refine lv_iload hx hb d_MD_into_179 (lv_at hl 0 rfl) ?_
                            exact W.iret hx hb hr (fun t ht _ => qr_i h ht hW) hW.2.2.2 d_MD_into_181
                        · rw [if_neg c90] at h
                          refine lv_aload_n hx hb d_MD_into_148 rfl (lv_at hl 1 rfl) ?_
                          refine lv_iload_n hx hb d_MD_into_149 rfl (lv_at hl 2 rfl) ?_
                          refine lv_iload hx hb d_MD_into_150 (lv_at hl 0 rfl) ?_
                          refine lv_iload_n hx hb d_MD_into_152 rfl (lv_at hl 4 rfl) ?_
                          obtain ⟨r91, g_r91, h⟩ := ob_some h
                          refine cl_MD_154 (rest := []) C hD (hml.trans hl.1.symm) hW g_r91 ⟨Nat.le_of_ble_eq_true rfl, Nat.le_of_ble_eq_true rfl⟩ (Nat.le_of_ble_eq_true rfl) d_MD_into_153 ⟨Nat.zero_le _, Nat.zero_le _⟩ (fun H locs hW => ?_)
                          refine lv_if_ne (tgt := 163) hx hb d_MD_into_156 (by decide) (fun c92 => ?_) (fun c92 => ?_)
                          · rw [if_neg c92] at h
                            refine lv_iconst (v := 0) hx hb d_MD_into_163 (by decide) ?_
                            refine lv_istore (lv' := [(6, .int 0), (5, .int r72), (0, .ref (ad 0)), (1, .int x1), (2, .int x2), (3, .int x3)]) hx hb d_MD_into_164 hl (by decide) rfl (fun ls hl => ?_)
                            refine lv_iload hx hb d_MD_into_166 (lv_at hl 0 rfl) ?_
                            refine lv_if_ne (tgt := 179) hx hb d_MD_into_168 (by decide) (fun c95 => ?_) (fun c95 => ?_)
                            · rw [if_neg c95] at h
                              refine lv_iload hx hb d_MD_into_179 (lv_at hl 0 rfl) ?_
                              exact W.iret hx hb hr (fun t ht _ => qr_i h ht hW) hW.2.2.2 d_MD_into_181
                            · rw [if_pos c95] at h
                              refine lv_aload_n hx hb d_MD_into_171 rfl (lv_at hl 2 rfl) ?_
                              refine lv_iload_n hx hb d_MD_into_172 rfl (lv_at hl 3 rfl) ?_
                              refine lv_iload_n hx hb d_MD_into_173 rfl (lv_at hl 5 rfl) ?_
                              refine lv_iconst (v := 1) hx hb d_MD_into_174 (by decide) ?_
                              refine lv_iload_n hx hb d_MD_into_175 rfl (lv_at hl 4 rfl) ?_
                              obtain ⟨r96, g_r96, h⟩ := ob_some h
                              refine cl_MD_157 (rest := []) C hD (hml.trans hl.1.symm) hW g_r96 ⟨Nat.le_of_ble_eq_true rfl, Nat.le_of_ble_eq_true rfl⟩ (Nat.le_of_ble_eq_true rfl) d_MD_into_176 ⟨Nat.zero_le _, Nat.zero_le _⟩ (fun H locs hW => ?_)
                              refine lv_iload hx hb d_MD_into_179 (lv_at hl 0 rfl) ?_
                              exact W.iret hx hb hr (fun t ht _ => qr_i h ht hW) hW.2.2.2 d_MD_into_181
                          · rw [if_pos c92] at h
                            refine lv_iconst (v := 5) hx hb d_MD_into_159 (by decide) ?_
                            refine lv_goto (tgt := 164) hx hb d_MD_into_160 (by decide) ?_
                            refine lv_istore (lv' := [(6, .int 5), (5, .int r72), (0, .ref (ad 0)), (1, .int x1), (2, .int x2), (3, .int x3)]) hx hb d_MD_into_164 hl (by decide) rfl (fun ls hl => ?_)
                            refine lv_iload hx hb d_MD_into_166 (lv_at hl 0 rfl) ?_
                            refine lv_if_ne (tgt := 179) hx hb d_MD_into_168 (by decide) (fun c93 => ?_) (fun c93 => ?_)
                            · rw [if_neg c93] at h
                              refine lv_iload hx hb d_MD_into_179 (lv_at hl 0 rfl) ?_
                              exact W.iret hx hb hr (fun t ht _ => qr_i h ht hW) hW.2.2.2 d_MD_into_181
                            · rw [if_pos c93] at h
                              refine lv_aload_n hx hb d_MD_into_171 rfl (lv_at hl 2 rfl) ?_
                              refine lv_iload_n hx hb d_MD_into_172 rfl (lv_at hl 3 rfl) ?_
                              refine lv_iload_n hx hb d_MD_into_173 rfl (lv_at hl 5 rfl) ?_
                              refine lv_iconst (v := 1) hx hb d_MD_into_174 (by decide) ?_
                              refine lv_iload_n hx hb d_MD_into_175 rfl (lv_at hl 4 rfl) ?_
                              obtain ⟨r94, g_r94, h⟩ := ob_some h
                              refine cl_MD_157 (rest := []) C hD (hml.trans hl.1.symm) hW g_r94 ⟨Nat.le_of_ble_eq_true rfl, Nat.le_of_ble_eq_true rfl⟩ (Nat.le_of_ble_eq_true rfl) d_MD_into_176 ⟨Nat.zero_le _, Nat.zero_le _⟩ (fun H locs hW => ?_)
                              refine lv_iload hx hb d_MD_into_179 (lv_at hl 0 rfl) ?_
                              exact W.iret hx hb hr (fun t ht _ => qr_i h ht hW) hW.2.2.2 d_MD_into_181
                      · rw [if_neg c87] at h
                        refine lv_iconst (v := 4) hx hb d_MD_into_138 (by decide) ?_
                        refine lv_goto (tgt := 164) hx hb d_MD_into_139 (by decide) ?_
                        refine lv_istore (lv' := [(6, .int 4), (5, .int r72), (0, .ref (ad 0)), (1, .int x1), (2, .int x2), (3, .int x3)]) hx hb d_MD_into_164 hl (by decide) rfl (fun ls hl => ?_)
                        refine lv_iload hx hb d_MD_into_166 (lv_at hl 0 rfl) ?_
                        refine lv_if_ne (tgt := 179) hx hb d_MD_into_168 (by decide) (fun c88 => ?_) (fun c88 => ?_)
                        · rw [if_neg c88] at h
                          refine lv_iload hx hb d_MD_into_179 (lv_at hl 0 rfl) ?_
                          exact W.iret hx hb hr (fun t ht _ => qr_i h ht hW) hW.2.2.2 d_MD_into_181
                        · rw [if_pos c88] at h
                          refine lv_aload_n hx hb d_MD_into_171 rfl (lv_at hl 2 rfl) ?_
                          refine lv_iload_n hx hb d_MD_into_172 rfl (lv_at hl 3 rfl) ?_
                          refine lv_iload_n hx hb d_MD_into_173 rfl (lv_at hl 5 rfl) ?_
                          refine lv_iconst (v := 1) hx hb d_MD_into_174 (by decide) ?_
                          refine lv_iload_n hx hb d_MD_into_175 rfl (lv_at hl 4 rfl) ?_
                          obtain ⟨r89, g_r89, h⟩ := ob_some h
                          refine cl_MD_157 (rest := []) C hD (hml.trans hl.1.symm) hW g_r89 ⟨Nat.le_of_ble_eq_true rfl, Nat.le_of_ble_eq_true rfl⟩ (Nat.le_of_ble_eq_true rfl) d_MD_into_176 ⟨Nat.zero_le _, Nat.zero_le _⟩ (fun H locs hW => ?_)
                          refine lv_iload hx hb d_MD_into_179 (lv_at hl 0 rfl) ?_
                          exact W.iret hx hb hr (fun t ht _ => qr_i h ht hW) hW.2.2.2 d_MD_into_181
                    · rw [if_neg c82] at h
                      refine lv_iconst (v := 3) hx hb d_MD_into_118 (by decide) ?_
                      refine lv_goto (tgt := 164) hx hb d_MD_into_119 (by decide) ?_
                      refine lv_istore (lv' := [(6, .int 3), (5, .int r72), (0, .ref (ad 0)), (1, .int x1), (2, .int x2), (3, .int x3)]) hx hb d_MD_into_164 hl (by decide) rfl (fun ls hl => ?_)
                      refine lv_iload hx hb d_MD_into_166 (lv_at hl 0 rfl) ?_
                      refine lv_if_ne (tgt := 179) hx hb d_MD_into_168 (by decide) (fun c83 => ?_) (fun c83 => ?_)
                      · rw [if_neg c83] at h
                        refine lv_iload hx hb d_MD_into_179 (lv_at hl 0 rfl) ?_
                        exact W.iret hx hb hr (fun t ht _ => qr_i h ht hW) hW.2.2.2 d_MD_into_181
                      · rw [if_pos c83] at h
                        refine lv_aload_n hx hb d_MD_into_171 rfl (lv_at hl 2 rfl) ?_
                        refine lv_iload_n hx hb d_MD_into_172 rfl (lv_at hl 3 rfl) ?_
                        refine lv_iload_n hx hb d_MD_into_173 rfl (lv_at hl 5 rfl) ?_
                        refine lv_iconst (v := 1) hx hb d_MD_into_174 (by decide) ?_
                        refine lv_iload_n hx hb d_MD_into_175 rfl (lv_at hl 4 rfl) ?_
                        obtain ⟨r84, g_r84, h⟩ := ob_some h
                        refine cl_MD_157 (rest := []) C hD (hml.trans hl.1.symm) hW g_r84 ⟨Nat.le_of_ble_eq_true rfl, Nat.le_of_ble_eq_true rfl⟩ (Nat.le_of_ble_eq_true rfl) d_MD_into_176 ⟨Nat.zero_le _, Nat.zero_le _⟩ (fun H locs hW => ?_)
                        refine lv_iload hx hb d_MD_into_179 (lv_at hl 0 rfl) ?_
                        exact W.iret hx hb hr (fun t ht _ => qr_i h ht hW) hW.2.2.2 d_MD_into_181
                  · rw [if_pos c79] at h
                    refine lv_iconst (v := 2) hx hb d_MD_into_105 (by decide) ?_
                    refine lv_goto (tgt := 164) hx hb d_MD_into_106 (by decide) ?_
                    refine lv_istore (lv' := [(6, .int 2), (5, .int r72), (0, .ref (ad 0)), (1, .int x1), (2, .int x2), (3, .int x3)]) hx hb d_MD_into_164 hl (by decide) rfl (fun ls hl => ?_)
                    refine lv_iload hx hb d_MD_into_166 (lv_at hl 0 rfl) ?_
                    refine lv_if_ne (tgt := 179) hx hb d_MD_into_168 (by decide) (fun c80 => ?_) (fun c80 => ?_)
                    · rw [if_neg c80] at h
                      refine lv_iload hx hb d_MD_into_179 (lv_at hl 0 rfl) ?_
                      exact W.iret hx hb hr (fun t ht _ => qr_i h ht hW) hW.2.2.2 d_MD_into_181
                    · rw [if_pos c80] at h
                      refine lv_aload_n hx hb d_MD_into_171 rfl (lv_at hl 2 rfl) ?_
                      refine lv_iload_n hx hb d_MD_into_172 rfl (lv_at hl 3 rfl) ?_
                      refine lv_iload_n hx hb d_MD_into_173 rfl (lv_at hl 5 rfl) ?_
                      refine lv_iconst (v := 1) hx hb d_MD_into_174 (by decide) ?_
                      refine lv_iload_n hx hb d_MD_into_175 rfl (lv_at hl 4 rfl) ?_
                      obtain ⟨r81, g_r81, h⟩ := ob_some h
                      refine cl_MD_157 (rest := []) C hD (hml.trans hl.1.symm) hW g_r81 ⟨Nat.le_of_ble_eq_true rfl, Nat.le_of_ble_eq_true rfl⟩ (Nat.le_of_ble_eq_true rfl) d_MD_into_176 ⟨Nat.zero_le _, Nat.zero_le _⟩ (fun H locs hW => ?_)
                      refine lv_iload hx hb d_MD_into_179 (lv_at hl 0 rfl) ?_
                      exact W.iret hx hb hr (fun t ht _ => qr_i h ht hW) hW.2.2.2 d_MD_into_181
                · rw [if_neg c75] at h
                  have k92 : ∀ (x1 : Int32) (x2 : Int32) (x3 : Int32) (σ : Sg) (h : C_MD_into_92 x1 x2 x3 σ = some out) (H : Heap) (locs : List Loc) (hW : WR G ad cI cZ s σ H locs) (ls : Array Slot) (hl : lv_has ls 7 [(0, .ref (ad 0)), (1, .int x1), (2, .int x2), (3, .int x3)]), W p l e (headSpec wl_MD_into ({ frames := 5, cells := 0, slots := 0, locals := 122 } : Room)).room s m (([.ref (ad 0), .int a1, .int a2, .int a3] : List Value).toArray) below meth c H locs 0 0 (MQ below (QRi G ad cI cZ out) (([.ref (ad 0), .int a1, .int a2, .int a3] : List Value).toArray) s 0 0 (AR ad)) (F0 m 92 ls []) := by
                    intro x1 x2 x3 σ h H locs hW ls hl
                    unfold C_MD_into_92 at h
                    refine lv_iconst (v := 1) hx hb d_MD_into_92 (by decide) ?_
                    refine lv_goto (tgt := 164) hx hb d_MD_into_93 (by decide) ?_
                    refine lv_istore (lv' := [(6, .int 1), (0, .ref (ad 0)), (1, .int x1), (2, .int x2), (3, .int x3)]) hx hb d_MD_into_164 hl (by decide) rfl (fun ls hl => ?_)
                    refine lv_iload hx hb d_MD_into_166 (lv_at hl 0 rfl) ?_
                    refine lv_if_ne (tgt := 179) hx hb d_MD_into_168 (by decide) (fun c76 => ?_) (fun c76 => ?_)
                    · rw [if_neg c76] at h
                      refine lv_iload hx hb d_MD_into_179 (lv_at hl 0 rfl) ?_
                      exact W.iret hx hb hr (fun t ht _ => qr_i h ht hW) hW.2.2.2 d_MD_into_181
                    · rw [if_pos c76] at h
                      refine lv_aload_n hx hb d_MD_into_171 rfl (lv_at hl 1 rfl) ?_
                      refine lv_iload_n hx hb d_MD_into_172 rfl (lv_at hl 2 rfl) ?_
                      refine lv_iload_n hx hb d_MD_into_173 rfl (lv_at hl 4 rfl) ?_
                      refine lv_iconst (v := 1) hx hb d_MD_into_174 (by decide) ?_
                      refine lv_iload_n hx hb d_MD_into_175 rfl (lv_at hl 3 rfl) ?_
                      obtain ⟨r77, g_r77, h⟩ := ob_some h
                      refine cl_MD_157 (rest := []) C hD (hml.trans hl.1.symm) hW g_r77 ⟨Nat.le_of_ble_eq_true rfl, Nat.le_of_ble_eq_true rfl⟩ (Nat.le_of_ble_eq_true rfl) d_MD_into_176 ⟨Nat.zero_le _, Nat.zero_le _⟩ (fun H locs hW => ?_)
                      refine lv_iload hx hb d_MD_into_179 (lv_at hl 0 rfl) ?_
                      exact W.iret hx hb hr (fun t ht _ => qr_i h ht hW) hW.2.2.2 d_MD_into_181
                  exact k92 x1 x2 x3 r70.2 h _ _ hW _ (lv_sub hl [1, 2, 3, 4] rfl)
            · rw [if_pos c71] at h
              refine lv_iconst (v := 0) hx hb d_MD_into_63 (by decide) ?_
              exact W.iret hx hb hr (fun t ht _ => qr_i h ht hW) hW.2.2.2 d_MD_into_64
          exact k57 x1 x2 x3 0 r5 s0 σ h _ _ hW _ (lv_sub hl [1, 2, 3, 4] rfl)
        · rw [if_neg c6] at h
          refine lv_aload_n hx hb d_MD_into_41 rfl (lv_at hl 1 rfl) ?_
          refine gf_MD_32 C hW.1 d_MD_into_42 ?_
          refine lv_iload_n hx hb d_MD_into_45 rfl (lv_at hl 2 rfl) ?_
          obtain ⟨hin, h⟩ := gd_some h
          refine alR_8 C hW.1 hin d_MD_into_46 ?_
          refine lv_bipush (v := 40) hx hb d_MD_into_47 (by decide) ?_
          refine lv_icmp_ge (tgt := 56) hx hb d_MD_into_49 (by decide) (fun c7 => ?_) (fun c7 => ?_)
          · rw [if_pos c7] at h
            refine lv_iconst (v := 0) hx hb d_MD_into_56 (by decide) ?_
            have k57 : ∀ (x1 : Int32) (x2 : Int32) (x3 : Int32) (s0 : Int32) (s1 : Int32) (s2 : Int32) (σ : Sg) (h : C_MD_into_57 x1 x2 x3 s0 s1 s2 σ = some out) (H : Heap) (locs : List Loc) (hW : WR G ad cI cZ s σ H locs) (ls : Array Slot) (hl : lv_has ls 7 [(0, .ref (ad 0)), (1, .int x1), (2, .int x2), (3, .int x3)]), W p l e (headSpec wl_MD_into ({ frames := 5, cells := 0, slots := 0, locals := 122 } : Room)).room s m (([.ref (ad 0), .int a1, .int a2, .int a3] : List Value).toArray) below meth c H locs 0 0 (MQ below (QRi G ad cI cZ out) (([.ref (ad 0), .int a1, .int a2, .int a3] : List Value).toArray) s 0 0 (AR ad)) (F0 m 57 ls [.int s0, .int s1, .int s2, .ref (ad 0)]) := by
              intro x1 x2 x3 s0 s1 s2 σ h H locs hW ls hl
              unfold C_MD_into_57 at h
              obtain ⟨r39, g_r39, h⟩ := ob_some h
              refine cl_MD_102 (rest := []) C hD (hml.trans hl.1.symm) hW g_r39 ⟨Nat.le_of_ble_eq_true rfl, Nat.le_of_ble_eq_true rfl⟩ (Nat.le_of_ble_eq_true rfl) d_MD_into_57 ⟨Nat.zero_le _, Nat.zero_le _⟩ (fun H locs hW => ?_)
              refine lv_if_ne (tgt := 65) hx hb d_MD_into_60 (by decide) (fun c40 => ?_) (fun c40 => ?_)
              · rw [if_neg c40] at h
                refine lv_aload_n hx hb d_MD_into_65 rfl (lv_at hl 0 rfl) ?_
                refine lv_iload_n hx hb d_MD_into_66 rfl (lv_at hl 2 rfl) ?_
                refine lv_iload_n hx hb d_MD_into_67 rfl (lv_at hl 3 rfl) ?_
                obtain ⟨r41, g_r41, h⟩ := ob_some h
                refine cl_MD_130 (rest := []) C (hml.trans hl.1.symm) hW.1 g_r41 ⟨Nat.le_of_ble_eq_true rfl, Nat.le_of_ble_eq_true rfl⟩ (Nat.le_of_ble_eq_true rfl) d_MD_into_68 ⟨Nat.zero_le _, Nat.zero_le _⟩ ?_
                refine lv_istore (lv' := [(5, .int r41), (0, .ref (ad 0)), (1, .int x1), (2, .int x2), (3, .int x3)]) hx hb d_MD_into_71 hl (by decide) rfl (fun ls hl => ?_)
                refine lv_aload_n hx hb d_MD_into_73 rfl (lv_at hl 1 rfl) ?_
                refine gf_MD_25 C hW.1 d_MD_into_74 ?_
                refine lv_iload_n hx hb d_MD_into_77 rfl (lv_at hl 3 rfl) ?_
                obtain ⟨hin, h⟩ := gd_some h
                refine alR_6 C hW.1 hin d_MD_into_78 ?_
                refine lv_if_eq (tgt := 92) hx hb d_MD_into_79 (by decide) (fun c42 => ?_) (fun c42 => ?_)
                · rw [if_pos c42] at h
                  have k92 : ∀ (x1 : Int32) (x2 : Int32) (x3 : Int32) (σ : Sg) (h : C_MD_into_92 x1 x2 x3 σ = some out) (H : Heap) (locs : List Loc) (hW : WR G ad cI cZ s σ H locs) (ls : Array Slot) (hl : lv_has ls 7 [(0, .ref (ad 0)), (1, .int x1), (2, .int x2), (3, .int x3)]), W p l e (headSpec wl_MD_into ({ frames := 5, cells := 0, slots := 0, locals := 122 } : Room)).room s m (([.ref (ad 0), .int a1, .int a2, .int a3] : List Value).toArray) below meth c H locs 0 0 (MQ below (QRi G ad cI cZ out) (([.ref (ad 0), .int a1, .int a2, .int a3] : List Value).toArray) s 0 0 (AR ad)) (F0 m 92 ls []) := by
                    intro x1 x2 x3 σ h H locs hW ls hl
                    unfold C_MD_into_92 at h
                    refine lv_iconst (v := 1) hx hb d_MD_into_92 (by decide) ?_
                    refine lv_goto (tgt := 164) hx hb d_MD_into_93 (by decide) ?_
                    refine lv_istore (lv' := [(6, .int 1), (0, .ref (ad 0)), (1, .int x1), (2, .int x2), (3, .int x3)]) hx hb d_MD_into_164 hl (by decide) rfl (fun ls hl => ?_)
                    refine lv_iload hx hb d_MD_into_166 (lv_at hl 0 rfl) ?_
                    refine lv_if_ne (tgt := 179) hx hb d_MD_into_168 (by decide) (fun c68 => ?_) (fun c68 => ?_)
                    · rw [if_neg c68] at h
                      refine lv_iload hx hb d_MD_into_179 (lv_at hl 0 rfl) ?_
                      exact W.iret hx hb hr (fun t ht _ => qr_i h ht hW) hW.2.2.2 d_MD_into_181
                    · rw [if_pos c68] at h
                      refine lv_aload_n hx hb d_MD_into_171 rfl (lv_at hl 1 rfl) ?_
                      refine lv_iload_n hx hb d_MD_into_172 rfl (lv_at hl 2 rfl) ?_
                      refine lv_iload_n hx hb d_MD_into_173 rfl (lv_at hl 4 rfl) ?_
                      refine lv_iconst (v := 1) hx hb d_MD_into_174 (by decide) ?_
                      refine lv_iload_n hx hb d_MD_into_175 rfl (lv_at hl 3 rfl) ?_
                      obtain ⟨r69, g_r69, h⟩ := ob_some h
                      refine cl_MD_157 (rest := []) C hD (hml.trans hl.1.symm) hW g_r69 ⟨Nat.le_of_ble_eq_true rfl, Nat.le_of_ble_eq_true rfl⟩ (Nat.le_of_ble_eq_true rfl) d_MD_into_176 ⟨Nat.zero_le _, Nat.zero_le _⟩ (fun H locs hW => ?_)
                      refine lv_iload hx hb d_MD_into_179 (lv_at hl 0 rfl) ?_
                      exact W.iret hx hb hr (fun t ht _ => qr_i h ht hW) hW.2.2.2 d_MD_into_181
                  exact k92 x1 x2 x3 r39.2 h _ _ hW _ (lv_sub hl [1, 2, 3, 4] rfl)
                · rw [if_neg c42] at h
                  refine lv_aload_n hx hb d_MD_into_82 rfl (lv_at hl 1 rfl) ?_
                  refine lv_iload_n hx hb d_MD_into_83 rfl (lv_at hl 2 rfl) ?_
                  refine lv_iload_n hx hb d_MD_into_84 rfl (lv_at hl 3 rfl) ?_
                  refine lv_iload_n hx hb d_MD_into_85 rfl (lv_at hl 4 rfl) ?_
                  obtain ⟨r43, g_r43, h⟩ := ob_some h
                  refine cl_MD_164 (rest := []) C (hml.trans hl.1.symm) hW.1 g_r43 ⟨Nat.le_of_ble_eq_true rfl, Nat.le_of_ble_eq_true rfl⟩ (Nat.le_of_ble_eq_true rfl) d_MD_into_86 ⟨Nat.zero_le _, Nat.zero_le _⟩ ?_
                  refine lv_if_eq (tgt := 96) hx hb d_MD_into_89 (by decide) (fun c44 => ?_) (fun c44 => ?_)
                  · rw [if_pos c44] at h
                    refine lv_aload_n hx hb d_MD_into_96 rfl (lv_at hl 1 rfl) ?_
                    refine lv_iload_n hx hb d_MD_into_97 rfl (lv_at hl 2 rfl) ?_
                    refine lv_iload_n hx hb d_MD_into_98 rfl (lv_at hl 3 rfl) ?_
                    obtain ⟨r47, g_r47, h⟩ := ob_some h
                    refine cl_MD_167 (rest := []) C (hml.trans hl.1.symm) hW.1 g_r47 ⟨Nat.le_of_ble_eq_true rfl, Nat.le_of_ble_eq_true rfl⟩ (Nat.le_of_ble_eq_true rfl) d_MD_into_99 ⟨Nat.zero_le _, Nat.zero_le _⟩ ?_
                    refine lv_if_ne (tgt := 109) hx hb d_MD_into_102 (by decide) (fun c48 => ?_) (fun c48 => ?_)
                    · rw [if_neg c48] at h
                      refine lv_aload_n hx hb d_MD_into_109 rfl (lv_at hl 1 rfl) ?_
                      refine gf_MD_22 C hW.1 d_MD_into_110 ?_
                      refine lv_iload_n hx hb d_MD_into_113 rfl (lv_at hl 2 rfl) ?_
                      obtain ⟨hin, h⟩ := gd_some h
                      refine alR_5 C hW.1 hin d_MD_into_114 ?_
                      refine lv_if_le (tgt := 122) hx hb d_MD_into_115 (by decide) (fun c51 => ?_) (fun c51 => ?_)
                      · rw [if_pos c51] at h
                        refine lv_aload_n hx hb d_MD_into_122 rfl (lv_at hl 1 rfl) ?_
                        refine lv_aload_n hx hb d_MD_into_123 rfl (lv_at hl 1 rfl) ?_
                        refine lv_iload_n hx hb d_MD_into_124 rfl (lv_at hl 2 rfl) ?_
                        refine lv_iload_n hx hb d_MD_into_125 rfl (lv_at hl 4 rfl) ?_
                        obtain ⟨r54, g_r54, h⟩ := ob_some h
                        refine cl_MD_130 (rest := [.ref (ad 0)]) C (hml.trans hl.1.symm) hW.1 g_r54 ⟨Nat.le_of_ble_eq_true rfl, Nat.le_of_ble_eq_true rfl⟩ (Nat.le_of_ble_eq_true rfl) d_MD_into_126 ⟨Nat.zero_le _, Nat.zero_le _⟩ ?_
                        refine lv_iload hx hb d_MD_into_129 (lv_at hl 0 rfl) ?_
                        refine lv_iload_n hx hb d_MD_into_131 rfl (lv_at hl 4 rfl) ?_
                        obtain ⟨r55, g_r55, h⟩ := ob_some h
                        refine cl_MD_151 (rest := []) C (hml.trans hl.1.symm) hW.1 g_r55 ⟨Nat.le_of_ble_eq_true rfl, Nat.le_of_ble_eq_true rfl⟩ (Nat.le_of_ble_eq_true rfl) d_MD_into_132 ⟨Nat.zero_le _, Nat.zero_le _⟩ ?_
                        refine lv_if_eq (tgt := 142) hx hb d_MD_into_135 (by decide) (fun c56 => ?_) (fun c56 => ?_)
                        · rw [if_pos c56] at h
                          refine lv_iload hx hb d_MD_into_142 (lv_at hl 0 rfl) ?_
                          refine lv_iconst (v := (-1)) hx hb d_MD_into_144 (by decide) ?_
                          refine lv_icmp_eq (tgt := 163) hx hb d_MD_into_145 (by decide) (fun c59 => ?_) (fun c59 => ?_)
                          · rw [if_pos c59] at h
                            refine lv_iconst (v := 0) hx hb d_MD_into_163 (by decide) ?_
                            refine lv_istore (lv' := [(6, .int 0), (5, .int r41), (0, .ref (ad 0)), (1, .int x1), (2, .int x2), (3, .int x3)]) hx hb d_MD_into_164 hl (by decide) rfl (fun ls hl => ?_)
                            refine lv_iload hx hb d_MD_into_166 (lv_at hl 0 rfl) ?_
                            refine lv_if_ne (tgt := 179) hx hb d_MD_into_168 (by decide) (fun c66 => ?_) (fun c66 => ?_)
                            · rw [if_neg c66] at h
                              refine lv_iload hx hb d_MD_into_179 (lv_at hl 0 rfl) ?_
                              exact W.iret hx hb hr (fun t ht _ => qr_i h ht hW) hW.2.2.2 d_MD_into_181
                            · rw [if_pos c66] at h
                              refine lv_aload_n hx hb d_MD_into_171 rfl (lv_at hl 2 rfl) ?_
                              refine lv_iload_n hx hb d_MD_into_172 rfl (lv_at hl 3 rfl) ?_
                              refine lv_iload_n hx hb d_MD_into_173 rfl (lv_at hl 5 rfl) ?_
                              refine lv_iconst (v := 1) hx hb d_MD_into_174 (by decide) ?_
                              refine lv_iload_n hx hb d_MD_into_175 rfl (lv_at hl 4 rfl) ?_
                              obtain ⟨r67, g_r67, h⟩ := ob_some h
                              refine cl_MD_157 (rest := []) C hD (hml.trans hl.1.symm) hW g_r67 ⟨Nat.le_of_ble_eq_true rfl, Nat.le_of_ble_eq_true rfl⟩ (Nat.le_of_ble_eq_true rfl) d_MD_into_176 ⟨Nat.zero_le _, Nat.zero_le _⟩ (fun H locs hW => ?_)
                              refine lv_iload hx hb d_MD_into_179 (lv_at hl 0 rfl) ?_
                              exact W.iret hx hb hr (fun t ht _ => qr_i h ht hW) hW.2.2.2 d_MD_into_181
                          · rw [if_neg c59] at h
                            refine lv_aload_n hx hb d_MD_into_148 rfl (lv_at hl 1 rfl) ?_
                            refine lv_iload_n hx hb d_MD_into_149 rfl (lv_at hl 2 rfl) ?_
                            refine lv_iload hx hb d_MD_into_150 (lv_at hl 0 rfl) ?_
                            refine lv_iload_n hx hb d_MD_into_152 rfl (lv_at hl 4 rfl) ?_
                            obtain ⟨r60, g_r60, h⟩ := ob_some h
                            refine cl_MD_154 (rest := []) C hD (hml.trans hl.1.symm) hW g_r60 ⟨Nat.le_of_ble_eq_true rfl, Nat.le_of_ble_eq_true rfl⟩ (Nat.le_of_ble_eq_true rfl) d_MD_into_153 ⟨Nat.zero_le _, Nat.zero_le _⟩ (fun H locs hW => ?_)
                            refine lv_if_ne (tgt := 163) hx hb d_MD_into_156 (by decide) (fun c61 => ?_) (fun c61 => ?_)
                            · rw [if_neg c61] at h
                              refine lv_iconst (v := 0) hx hb d_MD_into_163 (by decide) ?_
                              refine lv_istore (lv' := [(6, .int 0), (5, .int r41), (0, .ref (ad 0)), (1, .int x1), (2, .int x2), (3, .int x3)]) hx hb d_MD_into_164 hl (by decide) rfl (fun ls hl => ?_)
                              refine lv_iload hx hb d_MD_into_166 (lv_at hl 0 rfl) ?_
                              refine lv_if_ne (tgt := 179) hx hb d_MD_into_168 (by decide) (fun c64 => ?_) (fun c64 => ?_)
                              · rw [if_neg c64] at h
                                refine lv_iload hx hb d_MD_into_179 (lv_at hl 0 rfl) ?_
                                exact W.iret hx hb hr (fun t ht _ => qr_i h ht hW) hW.2.2.2 d_MD_into_181
                              · rw [if_pos c64] at h
                                refine lv_aload_n hx hb d_MD_into_171 rfl (lv_at hl 2 rfl) ?_
                                refine lv_iload_n hx hb d_MD_into_172 rfl (lv_at hl 3 rfl) ?_
                                refine lv_iload_n hx hb d_MD_into_173 rfl (lv_at hl 5 rfl) ?_
                                refine lv_iconst (v := 1) hx hb d_MD_into_174 (by decide) ?_
                                refine lv_iload_n hx hb d_MD_into_175 rfl (lv_at hl 4 rfl) ?_
                                obtain ⟨r65, g_r65, h⟩ := ob_some h
                                refine cl_MD_157 (rest := []) C hD (hml.trans hl.1.symm) hW g_r65 ⟨Nat.le_of_ble_eq_true rfl, Nat.le_of_ble_eq_true rfl⟩ (Nat.le_of_ble_eq_true rfl) d_MD_into_176 ⟨Nat.zero_le _, Nat.zero_le _⟩ (fun H locs hW => ?_)
                                refine lv_iload hx hb d_MD_into_179 (lv_at hl 0 rfl) ?_
                                exact W.iret hx hb hr (fun t ht _ => qr_i h ht hW) hW.2.2.2 d_MD_into_181
                            · rw [if_pos c61] at h
                              refine lv_iconst (v := 5) hx hb d_MD_into_159 (by decide) ?_
                              refine lv_goto (tgt := 164) hx hb d_MD_into_160 (by decide) ?_
                              refine lv_istore (lv' := [(6, .int 5), (5, .int r41), (0, .ref (ad 0)), (1, .int x1), (2, .int x2), (3, .int x3)]) hx hb d_MD_into_164 hl (by decide) rfl (fun ls hl => ?_)
                              refine lv_iload hx hb d_MD_into_166 (lv_at hl 0 rfl) ?_
                              refine lv_if_ne (tgt := 179) hx hb d_MD_into_168 (by decide) (fun c62 => ?_) (fun c62 => ?_)
                              · rw [if_neg c62] at h
                                refine lv_iload hx hb d_MD_into_179 (lv_at hl 0 rfl) ?_
                                exact W.iret hx hb hr (fun t ht _ => qr_i h ht hW) hW.2.2.2 d_MD_into_181
                              · rw [if_pos c62] at h
                                refine lv_aload_n hx hb d_MD_into_171 rfl (lv_at hl 2 rfl) ?_
                                refine lv_iload_n hx hb d_MD_into_172 rfl (lv_at hl 3 rfl) ?_
                                refine lv_iload_n hx hb d_MD_into_173 rfl (lv_at hl 5 rfl) ?_
                                refine lv_iconst (v := 1) hx hb d_MD_into_174 (by decide) ?_
                                refine lv_iload_n hx hb d_MD_into_175 rfl (lv_at hl 4 rfl) ?_
                                obtain ⟨r63, g_r63, h⟩ := ob_some h
                                refine cl_MD_157 (rest := []) C hD (hml.trans hl.1.symm) hW g_r63 ⟨Nat.le_of_ble_eq_true rfl, Nat.le_of_ble_eq_true rfl⟩ (Nat.le_of_ble_eq_true rfl) d_MD_into_176 ⟨Nat.zero_le _, Nat.zero_le _⟩ (fun H locs hW => ?_)
                                refine lv_iload hx hb d_MD_into_179 (lv_at hl 0 rfl) ?_
                                exact W.iret hx hb hr (fun t ht _ => qr_i h ht hW) hW.2.2.2 d_MD_into_181
                        · rw [if_neg c56] at h
                          refine lv_iconst (v := 4) hx hb d_MD_into_138 (by decide) ?_
                          refine lv_goto (tgt := 164) hx hb d_MD_into_139 (by decide) ?_
                          refine lv_istore (lv' := [(6, .int 4), (5, .int r41), (0, .ref (ad 0)), (1, .int x1), (2, .int x2), (3, .int x3)]) hx hb d_MD_into_164 hl (by decide) rfl (fun ls hl => ?_)
                          refine lv_iload hx hb d_MD_into_166 (lv_at hl 0 rfl) ?_
                          refine lv_if_ne (tgt := 179) hx hb d_MD_into_168 (by decide) (fun c57 => ?_) (fun c57 => ?_)
                          · rw [if_neg c57] at h
                            refine lv_iload hx hb d_MD_into_179 (lv_at hl 0 rfl) ?_
                            exact W.iret hx hb hr (fun t ht _ => qr_i h ht hW) hW.2.2.2 d_MD_into_181
                          · rw [if_pos c57] at h
                            refine lv_aload_n hx hb d_MD_into_171 rfl (lv_at hl 2 rfl) ?_
                            refine lv_iload_n hx hb d_MD_into_172 rfl (lv_at hl 3 rfl) ?_
                            refine lv_iload_n hx hb d_MD_into_173 rfl (lv_at hl 5 rfl) ?_
                            refine lv_iconst (v := 1) hx hb d_MD_into_174 (by decide) ?_
                            refine lv_iload_n hx hb d_MD_into_175 rfl (lv_at hl 4 rfl) ?_
                            obtain ⟨r58, g_r58, h⟩ := ob_some h
                            refine cl_MD_157 (rest := []) C hD (hml.trans hl.1.symm) hW g_r58 ⟨Nat.le_of_ble_eq_true rfl, Nat.le_of_ble_eq_true rfl⟩ (Nat.le_of_ble_eq_true rfl) d_MD_into_176 ⟨Nat.zero_le _, Nat.zero_le _⟩ (fun H locs hW => ?_)
                            refine lv_iload hx hb d_MD_into_179 (lv_at hl 0 rfl) ?_
                            exact W.iret hx hb hr (fun t ht _ => qr_i h ht hW) hW.2.2.2 d_MD_into_181
                      · rw [if_neg c51] at h
                        refine lv_iconst (v := 3) hx hb d_MD_into_118 (by decide) ?_
                        refine lv_goto (tgt := 164) hx hb d_MD_into_119 (by decide) ?_
                        refine lv_istore (lv' := [(6, .int 3), (5, .int r41), (0, .ref (ad 0)), (1, .int x1), (2, .int x2), (3, .int x3)]) hx hb d_MD_into_164 hl (by decide) rfl (fun ls hl => ?_)
                        refine lv_iload hx hb d_MD_into_166 (lv_at hl 0 rfl) ?_
                        refine lv_if_ne (tgt := 179) hx hb d_MD_into_168 (by decide) (fun c52 => ?_) (fun c52 => ?_)
                        · rw [if_neg c52] at h
                          refine lv_iload hx hb d_MD_into_179 (lv_at hl 0 rfl) ?_
                          exact W.iret hx hb hr (fun t ht _ => qr_i h ht hW) hW.2.2.2 d_MD_into_181
                        · rw [if_pos c52] at h
                          refine lv_aload_n hx hb d_MD_into_171 rfl (lv_at hl 2 rfl) ?_
                          refine lv_iload_n hx hb d_MD_into_172 rfl (lv_at hl 3 rfl) ?_
                          refine lv_iload_n hx hb d_MD_into_173 rfl (lv_at hl 5 rfl) ?_
                          refine lv_iconst (v := 1) hx hb d_MD_into_174 (by decide) ?_
                          refine lv_iload_n hx hb d_MD_into_175 rfl (lv_at hl 4 rfl) ?_
                          obtain ⟨r53, g_r53, h⟩ := ob_some h
                          refine cl_MD_157 (rest := []) C hD (hml.trans hl.1.symm) hW g_r53 ⟨Nat.le_of_ble_eq_true rfl, Nat.le_of_ble_eq_true rfl⟩ (Nat.le_of_ble_eq_true rfl) d_MD_into_176 ⟨Nat.zero_le _, Nat.zero_le _⟩ (fun H locs hW => ?_)
                          refine lv_iload hx hb d_MD_into_179 (lv_at hl 0 rfl) ?_
                          exact W.iret hx hb hr (fun t ht _ => qr_i h ht hW) hW.2.2.2 d_MD_into_181
                    · rw [if_pos c48] at h
                      refine lv_iconst (v := 2) hx hb d_MD_into_105 (by decide) ?_
                      refine lv_goto (tgt := 164) hx hb d_MD_into_106 (by decide) ?_
                      refine lv_istore (lv' := [(6, .int 2), (5, .int r41), (0, .ref (ad 0)), (1, .int x1), (2, .int x2), (3, .int x3)]) hx hb d_MD_into_164 hl (by decide) rfl (fun ls hl => ?_)
                      refine lv_iload hx hb d_MD_into_166 (lv_at hl 0 rfl) ?_
                      refine lv_if_ne (tgt := 179) hx hb d_MD_into_168 (by decide) (fun c49 => ?_) (fun c49 => ?_)
                      · rw [if_neg c49] at h
                        refine lv_iload hx hb d_MD_into_179 (lv_at hl 0 rfl) ?_
                        exact W.iret hx hb hr (fun t ht _ => qr_i h ht hW) hW.2.2.2 d_MD_into_181
                      · rw [if_pos c49] at h
                        refine lv_aload_n hx hb d_MD_into_171 rfl (lv_at hl 2 rfl) ?_
                        refine lv_iload_n hx hb d_MD_into_172 rfl (lv_at hl 3 rfl) ?_
                        refine lv_iload_n hx hb d_MD_into_173 rfl (lv_at hl 5 rfl) ?_
                        refine lv_iconst (v := 1) hx hb d_MD_into_174 (by decide) ?_
                        refine lv_iload_n hx hb d_MD_into_175 rfl (lv_at hl 4 rfl) ?_
                        obtain ⟨r50, g_r50, h⟩ := ob_some h
                        refine cl_MD_157 (rest := []) C hD (hml.trans hl.1.symm) hW g_r50 ⟨Nat.le_of_ble_eq_true rfl, Nat.le_of_ble_eq_true rfl⟩ (Nat.le_of_ble_eq_true rfl) d_MD_into_176 ⟨Nat.zero_le _, Nat.zero_le _⟩ (fun H locs hW => ?_)
                        refine lv_iload hx hb d_MD_into_179 (lv_at hl 0 rfl) ?_
                        exact W.iret hx hb hr (fun t ht _ => qr_i h ht hW) hW.2.2.2 d_MD_into_181
                  · rw [if_neg c44] at h
                    have k92 : ∀ (x1 : Int32) (x2 : Int32) (x3 : Int32) (σ : Sg) (h : C_MD_into_92 x1 x2 x3 σ = some out) (H : Heap) (locs : List Loc) (hW : WR G ad cI cZ s σ H locs) (ls : Array Slot) (hl : lv_has ls 7 [(0, .ref (ad 0)), (1, .int x1), (2, .int x2), (3, .int x3)]), W p l e (headSpec wl_MD_into ({ frames := 5, cells := 0, slots := 0, locals := 122 } : Room)).room s m (([.ref (ad 0), .int a1, .int a2, .int a3] : List Value).toArray) below meth c H locs 0 0 (MQ below (QRi G ad cI cZ out) (([.ref (ad 0), .int a1, .int a2, .int a3] : List Value).toArray) s 0 0 (AR ad)) (F0 m 92 ls []) := by
                      intro x1 x2 x3 σ h H locs hW ls hl
                      unfold C_MD_into_92 at h
                      refine lv_iconst (v := 1) hx hb d_MD_into_92 (by decide) ?_
                      refine lv_goto (tgt := 164) hx hb d_MD_into_93 (by decide) ?_
                      refine lv_istore (lv' := [(6, .int 1), (0, .ref (ad 0)), (1, .int x1), (2, .int x2), (3, .int x3)]) hx hb d_MD_into_164 hl (by decide) rfl (fun ls hl => ?_)
                      refine lv_iload hx hb d_MD_into_166 (lv_at hl 0 rfl) ?_
                      refine lv_if_ne (tgt := 179) hx hb d_MD_into_168 (by decide) (fun c45 => ?_) (fun c45 => ?_)
                      · rw [if_neg c45] at h
                        refine lv_iload hx hb d_MD_into_179 (lv_at hl 0 rfl) ?_
                        exact W.iret hx hb hr (fun t ht _ => qr_i h ht hW) hW.2.2.2 d_MD_into_181
                      · rw [if_pos c45] at h
                        refine lv_aload_n hx hb d_MD_into_171 rfl (lv_at hl 1 rfl) ?_
                        refine lv_iload_n hx hb d_MD_into_172 rfl (lv_at hl 2 rfl) ?_
                        refine lv_iload_n hx hb d_MD_into_173 rfl (lv_at hl 4 rfl) ?_
                        refine lv_iconst (v := 1) hx hb d_MD_into_174 (by decide) ?_
                        refine lv_iload_n hx hb d_MD_into_175 rfl (lv_at hl 3 rfl) ?_
                        obtain ⟨r46, g_r46, h⟩ := ob_some h
                        refine cl_MD_157 (rest := []) C hD (hml.trans hl.1.symm) hW g_r46 ⟨Nat.le_of_ble_eq_true rfl, Nat.le_of_ble_eq_true rfl⟩ (Nat.le_of_ble_eq_true rfl) d_MD_into_176 ⟨Nat.zero_le _, Nat.zero_le _⟩ (fun H locs hW => ?_)
                        refine lv_iload hx hb d_MD_into_179 (lv_at hl 0 rfl) ?_
                        exact W.iret hx hb hr (fun t ht _ => qr_i h ht hW) hW.2.2.2 d_MD_into_181
                    exact k92 x1 x2 x3 r39.2 h _ _ hW _ (lv_sub hl [1, 2, 3, 4] rfl)
              · rw [if_pos c40] at h
                refine lv_iconst (v := 0) hx hb d_MD_into_63 (by decide) ?_
                exact W.iret hx hb hr (fun t ht _ => qr_i h ht hW) hW.2.2.2 d_MD_into_64
            exact k57 x1 x2 x3 0 r5 s0 σ h _ _ hW _ (lv_sub hl [1, 2, 3, 4] rfl)
          · rw [if_neg c7] at h
            refine lv_iconst (v := 1) hx hb d_MD_into_52 (by decide) ?_
            refine lv_goto (tgt := 57) hx hb d_MD_into_53 (by decide) ?_
            have k57 : ∀ (x1 : Int32) (x2 : Int32) (x3 : Int32) (s0 : Int32) (s1 : Int32) (s2 : Int32) (σ : Sg) (h : C_MD_into_57 x1 x2 x3 s0 s1 s2 σ = some out) (H : Heap) (locs : List Loc) (hW : WR G ad cI cZ s σ H locs) (ls : Array Slot) (hl : lv_has ls 7 [(0, .ref (ad 0)), (1, .int x1), (2, .int x2), (3, .int x3)]), W p l e (headSpec wl_MD_into ({ frames := 5, cells := 0, slots := 0, locals := 122 } : Room)).room s m (([.ref (ad 0), .int a1, .int a2, .int a3] : List Value).toArray) below meth c H locs 0 0 (MQ below (QRi G ad cI cZ out) (([.ref (ad 0), .int a1, .int a2, .int a3] : List Value).toArray) s 0 0 (AR ad)) (F0 m 57 ls [.int s0, .int s1, .int s2, .ref (ad 0)]) := by
              intro x1 x2 x3 s0 s1 s2 σ h H locs hW ls hl
              unfold C_MD_into_57 at h
              obtain ⟨r8, g_r8, h⟩ := ob_some h
              refine cl_MD_102 (rest := []) C hD (hml.trans hl.1.symm) hW g_r8 ⟨Nat.le_of_ble_eq_true rfl, Nat.le_of_ble_eq_true rfl⟩ (Nat.le_of_ble_eq_true rfl) d_MD_into_57 ⟨Nat.zero_le _, Nat.zero_le _⟩ (fun H locs hW => ?_)
              refine lv_if_ne (tgt := 65) hx hb d_MD_into_60 (by decide) (fun c9 => ?_) (fun c9 => ?_)
              · rw [if_neg c9] at h
                refine lv_aload_n hx hb d_MD_into_65 rfl (lv_at hl 0 rfl) ?_
                refine lv_iload_n hx hb d_MD_into_66 rfl (lv_at hl 2 rfl) ?_
                refine lv_iload_n hx hb d_MD_into_67 rfl (lv_at hl 3 rfl) ?_
                obtain ⟨r10, g_r10, h⟩ := ob_some h
                refine cl_MD_130 (rest := []) C (hml.trans hl.1.symm) hW.1 g_r10 ⟨Nat.le_of_ble_eq_true rfl, Nat.le_of_ble_eq_true rfl⟩ (Nat.le_of_ble_eq_true rfl) d_MD_into_68 ⟨Nat.zero_le _, Nat.zero_le _⟩ ?_
                refine lv_istore (lv' := [(5, .int r10), (0, .ref (ad 0)), (1, .int x1), (2, .int x2), (3, .int x3)]) hx hb d_MD_into_71 hl (by decide) rfl (fun ls hl => ?_)
                refine lv_aload_n hx hb d_MD_into_73 rfl (lv_at hl 1 rfl) ?_
                refine gf_MD_25 C hW.1 d_MD_into_74 ?_
                refine lv_iload_n hx hb d_MD_into_77 rfl (lv_at hl 3 rfl) ?_
                obtain ⟨hin, h⟩ := gd_some h
                refine alR_6 C hW.1 hin d_MD_into_78 ?_
                refine lv_if_eq (tgt := 92) hx hb d_MD_into_79 (by decide) (fun c11 => ?_) (fun c11 => ?_)
                · rw [if_pos c11] at h
                  have k92 : ∀ (x1 : Int32) (x2 : Int32) (x3 : Int32) (σ : Sg) (h : C_MD_into_92 x1 x2 x3 σ = some out) (H : Heap) (locs : List Loc) (hW : WR G ad cI cZ s σ H locs) (ls : Array Slot) (hl : lv_has ls 7 [(0, .ref (ad 0)), (1, .int x1), (2, .int x2), (3, .int x3)]), W p l e (headSpec wl_MD_into ({ frames := 5, cells := 0, slots := 0, locals := 122 } : Room)).room s m (([.ref (ad 0), .int a1, .int a2, .int a3] : List Value).toArray) below meth c H locs 0 0 (MQ below (QRi G ad cI cZ out) (([.ref (ad 0), .int a1, .int a2, .int a3] : List Value).toArray) s 0 0 (AR ad)) (F0 m 92 ls []) := by
                    intro x1 x2 x3 σ h H locs hW ls hl
                    unfold C_MD_into_92 at h
                    refine lv_iconst (v := 1) hx hb d_MD_into_92 (by decide) ?_
                    refine lv_goto (tgt := 164) hx hb d_MD_into_93 (by decide) ?_
                    refine lv_istore (lv' := [(6, .int 1), (0, .ref (ad 0)), (1, .int x1), (2, .int x2), (3, .int x3)]) hx hb d_MD_into_164 hl (by decide) rfl (fun ls hl => ?_)
                    refine lv_iload hx hb d_MD_into_166 (lv_at hl 0 rfl) ?_
                    refine lv_if_ne (tgt := 179) hx hb d_MD_into_168 (by decide) (fun c37 => ?_) (fun c37 => ?_)
                    · rw [if_neg c37] at h
                      refine lv_iload hx hb d_MD_into_179 (lv_at hl 0 rfl) ?_
                      exact W.iret hx hb hr (fun t ht _ => qr_i h ht hW) hW.2.2.2 d_MD_into_181
                    · rw [if_pos c37] at h
                      refine lv_aload_n hx hb d_MD_into_171 rfl (lv_at hl 1 rfl) ?_
                      refine lv_iload_n hx hb d_MD_into_172 rfl (lv_at hl 2 rfl) ?_
                      refine lv_iload_n hx hb d_MD_into_173 rfl (lv_at hl 4 rfl) ?_
                      refine lv_iconst (v := 1) hx hb d_MD_into_174 (by decide) ?_
                      refine lv_iload_n hx hb d_MD_into_175 rfl (lv_at hl 3 rfl) ?_
                      obtain ⟨r38, g_r38, h⟩ := ob_some h
                      refine cl_MD_157 (rest := []) C hD (hml.trans hl.1.symm) hW g_r38 ⟨Nat.le_of_ble_eq_true rfl, Nat.le_of_ble_eq_true rfl⟩ (Nat.le_of_ble_eq_true rfl) d_MD_into_176 ⟨Nat.zero_le _, Nat.zero_le _⟩ (fun H locs hW => ?_)
                      refine lv_iload hx hb d_MD_into_179 (lv_at hl 0 rfl) ?_
                      exact W.iret hx hb hr (fun t ht _ => qr_i h ht hW) hW.2.2.2 d_MD_into_181
                  exact k92 x1 x2 x3 r8.2 h _ _ hW _ (lv_sub hl [1, 2, 3, 4] rfl)
                · rw [if_neg c11] at h
                  refine lv_aload_n hx hb d_MD_into_82 rfl (lv_at hl 1 rfl) ?_
                  refine lv_iload_n hx hb d_MD_into_83 rfl (lv_at hl 2 rfl) ?_
                  refine lv_iload_n hx hb d_MD_into_84 rfl (lv_at hl 3 rfl) ?_
                  refine lv_iload_n hx hb d_MD_into_85 rfl (lv_at hl 4 rfl) ?_
                  obtain ⟨r12, g_r12, h⟩ := ob_some h
                  refine cl_MD_164 (rest := []) C (hml.trans hl.1.symm) hW.1 g_r12 ⟨Nat.le_of_ble_eq_true rfl, Nat.le_of_ble_eq_true rfl⟩ (Nat.le_of_ble_eq_true rfl) d_MD_into_86 ⟨Nat.zero_le _, Nat.zero_le _⟩ ?_
                  refine lv_if_eq (tgt := 96) hx hb d_MD_into_89 (by decide) (fun c13 => ?_) (fun c13 => ?_)
                  · rw [if_pos c13] at h
                    refine lv_aload_n hx hb d_MD_into_96 rfl (lv_at hl 1 rfl) ?_
                    refine lv_iload_n hx hb d_MD_into_97 rfl (lv_at hl 2 rfl) ?_
                    refine lv_iload_n hx hb d_MD_into_98 rfl (lv_at hl 3 rfl) ?_
                    obtain ⟨r16, g_r16, h⟩ := ob_some h
                    refine cl_MD_167 (rest := []) C (hml.trans hl.1.symm) hW.1 g_r16 ⟨Nat.le_of_ble_eq_true rfl, Nat.le_of_ble_eq_true rfl⟩ (Nat.le_of_ble_eq_true rfl) d_MD_into_99 ⟨Nat.zero_le _, Nat.zero_le _⟩ ?_
                    refine lv_if_ne (tgt := 109) hx hb d_MD_into_102 (by decide) (fun c17 => ?_) (fun c17 => ?_)
                    · rw [if_neg c17] at h
                      refine lv_aload_n hx hb d_MD_into_109 rfl (lv_at hl 1 rfl) ?_
                      refine gf_MD_22 C hW.1 d_MD_into_110 ?_
                      refine lv_iload_n hx hb d_MD_into_113 rfl (lv_at hl 2 rfl) ?_
                      obtain ⟨hin, h⟩ := gd_some h
                      refine alR_5 C hW.1 hin d_MD_into_114 ?_
                      refine lv_if_le (tgt := 122) hx hb d_MD_into_115 (by decide) (fun c20 => ?_) (fun c20 => ?_)
                      · rw [if_pos c20] at h
                        refine lv_aload_n hx hb d_MD_into_122 rfl (lv_at hl 1 rfl) ?_
                        refine lv_aload_n hx hb d_MD_into_123 rfl (lv_at hl 1 rfl) ?_
                        refine lv_iload_n hx hb d_MD_into_124 rfl (lv_at hl 2 rfl) ?_
                        refine lv_iload_n hx hb d_MD_into_125 rfl (lv_at hl 4 rfl) ?_
                        obtain ⟨r23, g_r23, h⟩ := ob_some h
                        refine cl_MD_130 (rest := [.ref (ad 0)]) C (hml.trans hl.1.symm) hW.1 g_r23 ⟨Nat.le_of_ble_eq_true rfl, Nat.le_of_ble_eq_true rfl⟩ (Nat.le_of_ble_eq_true rfl) d_MD_into_126 ⟨Nat.zero_le _, Nat.zero_le _⟩ ?_
                        refine lv_iload hx hb d_MD_into_129 (lv_at hl 0 rfl) ?_
                        refine lv_iload_n hx hb d_MD_into_131 rfl (lv_at hl 4 rfl) ?_
                        obtain ⟨r24, g_r24, h⟩ := ob_some h
                        refine cl_MD_151 (rest := []) C (hml.trans hl.1.symm) hW.1 g_r24 ⟨Nat.le_of_ble_eq_true rfl, Nat.le_of_ble_eq_true rfl⟩ (Nat.le_of_ble_eq_true rfl) d_MD_into_132 ⟨Nat.zero_le _, Nat.zero_le _⟩ ?_
                        refine lv_if_eq (tgt := 142) hx hb d_MD_into_135 (by decide) (fun c25 => ?_) (fun c25 => ?_)
                        · rw [if_pos c25] at h
                          refine lv_iload hx hb d_MD_into_142 (lv_at hl 0 rfl) ?_
                          refine lv_iconst (v := (-1)) hx hb d_MD_into_144 (by decide) ?_
                          refine lv_icmp_eq (tgt := 163) hx hb d_MD_into_145 (by decide) (fun c28 => ?_) (fun c28 => ?_)
                          · rw [if_pos c28] at h
                            refine lv_iconst (v := 0) hx hb d_MD_into_163 (by decide) ?_
                            refine lv_istore (lv' := [(6, .int 0), (5, .int r10), (0, .ref (ad 0)), (1, .int x1), (2, .int x2), (3, .int x3)]) hx hb d_MD_into_164 hl (by decide) rfl (fun ls hl => ?_)
                            refine lv_iload hx hb d_MD_into_166 (lv_at hl 0 rfl) ?_
                            refine lv_if_ne (tgt := 179) hx hb d_MD_into_168 (by decide) (fun c35 => ?_) (fun c35 => ?_)
                            · rw [if_neg c35] at h
                              refine lv_iload hx hb d_MD_into_179 (lv_at hl 0 rfl) ?_
                              exact W.iret hx hb hr (fun t ht _ => qr_i h ht hW) hW.2.2.2 d_MD_into_181
                            · rw [if_pos c35] at h
                              refine lv_aload_n hx hb d_MD_into_171 rfl (lv_at hl 2 rfl) ?_
                              refine lv_iload_n hx hb d_MD_into_172 rfl (lv_at hl 3 rfl) ?_
                              refine lv_iload_n hx hb d_MD_into_173 rfl (lv_at hl 5 rfl) ?_
                              refine lv_iconst (v := 1) hx hb d_MD_into_174 (by decide) ?_
                              refine lv_iload_n hx hb d_MD_into_175 rfl (lv_at hl 4 rfl) ?_
                              obtain ⟨r36, g_r36, h⟩ := ob_some h
                              refine cl_MD_157 (rest := []) C hD (hml.trans hl.1.symm) hW g_r36 ⟨Nat.le_of_ble_eq_true rfl, Nat.le_of_ble_eq_true rfl⟩ (Nat.le_of_ble_eq_true rfl) d_MD_into_176 ⟨Nat.zero_le _, Nat.zero_le _⟩ (fun H locs hW => ?_)
                              refine lv_iload hx hb d_MD_into_179 (lv_at hl 0 rfl) ?_
                              exact W.iret hx hb hr (fun t ht _ => qr_i h ht hW) hW.2.2.2 d_MD_into_181
                          · rw [if_neg c28] at h
                            refine lv_aload_n hx hb d_MD_into_148 rfl (lv_at hl 1 rfl) ?_
                            refine lv_iload_n hx hb d_MD_into_149 rfl (lv_at hl 2 rfl) ?_
                            refine lv_iload hx hb d_MD_into_150 (lv_at hl 0 rfl) ?_
                            refine lv_iload_n hx hb d_MD_into_152 rfl (lv_at hl 4 rfl) ?_
                            obtain ⟨r29, g_r29, h⟩ := ob_some h
                            refine cl_MD_154 (rest := []) C hD (hml.trans hl.1.symm) hW g_r29 ⟨Nat.le_of_ble_eq_true rfl, Nat.le_of_ble_eq_true rfl⟩ (Nat.le_of_ble_eq_true rfl) d_MD_into_153 ⟨Nat.zero_le _, Nat.zero_le _⟩ (fun H locs hW => ?_)
                            refine lv_if_ne (tgt := 163) hx hb d_MD_into_156 (by decide) (fun c30 => ?_) (fun c30 => ?_)
                            · rw [if_neg c30] at h
                              refine lv_iconst (v := 0) hx hb d_MD_into_163 (by decide) ?_
                              refine lv_istore (lv' := [(6, .int 0), (5, .int r10), (0, .ref (ad 0)), (1, .int x1), (2, .int x2), (3, .int x3)]) hx hb d_MD_into_164 hl (by decide) rfl (fun ls hl => ?_)
                              refine lv_iload hx hb d_MD_into_166 (lv_at hl 0 rfl) ?_
                              refine lv_if_ne (tgt := 179) hx hb d_MD_into_168 (by decide) (fun c33 => ?_) (fun c33 => ?_)
                              · rw [if_neg c33] at h
                                refine lv_iload hx hb d_MD_into_179 (lv_at hl 0 rfl) ?_
                                exact W.iret hx hb hr (fun t ht _ => qr_i h ht hW) hW.2.2.2 d_MD_into_181
                              · rw [if_pos c33] at h
                                refine lv_aload_n hx hb d_MD_into_171 rfl (lv_at hl 2 rfl) ?_
                                refine lv_iload_n hx hb d_MD_into_172 rfl (lv_at hl 3 rfl) ?_
                                refine lv_iload_n hx hb d_MD_into_173 rfl (lv_at hl 5 rfl) ?_
                                refine lv_iconst (v := 1) hx hb d_MD_into_174 (by decide) ?_
                                refine lv_iload_n hx hb d_MD_into_175 rfl (lv_at hl 4 rfl) ?_
                                obtain ⟨r34, g_r34, h⟩ := ob_some h
                                refine cl_MD_157 (rest := []) C hD (hml.trans hl.1.symm) hW g_r34 ⟨Nat.le_of_ble_eq_true rfl, Nat.le_of_ble_eq_true rfl⟩ (Nat.le_of_ble_eq_true rfl) d_MD_into_176 ⟨Nat.zero_le _, Nat.zero_le _⟩ (fun H locs hW => ?_)
                                refine lv_iload hx hb d_MD_into_179 (lv_at hl 0 rfl) ?_
                                exact W.iret hx hb hr (fun t ht _ => qr_i h ht hW) hW.2.2.2 d_MD_into_181
                            · rw [if_pos c30] at h
                              refine lv_iconst (v := 5) hx hb d_MD_into_159 (by decide) ?_
                              refine lv_goto (tgt := 164) hx hb d_MD_into_160 (by decide) ?_
                              refine lv_istore (lv' := [(6, .int 5), (5, .int r10), (0, .ref (ad 0)), (1, .int x1), (2, .int x2), (3, .int x3)]) hx hb d_MD_into_164 hl (by decide) rfl (fun ls hl => ?_)
                              refine lv_iload hx hb d_MD_into_166 (lv_at hl 0 rfl) ?_
                              refine lv_if_ne (tgt := 179) hx hb d_MD_into_168 (by decide) (fun c31 => ?_) (fun c31 => ?_)
                              · rw [if_neg c31] at h
                                refine lv_iload hx hb d_MD_into_179 (lv_at hl 0 rfl) ?_
                                exact W.iret hx hb hr (fun t ht _ => qr_i h ht hW) hW.2.2.2 d_MD_into_181
                              · rw [if_pos c31] at h
                                refine lv_aload_n hx hb d_MD_into_171 rfl (lv_at hl 2 rfl) ?_
                                refine lv_iload_n hx hb d_MD_into_172 rfl (lv_at hl 3 rfl) ?_
                                refine lv_iload_n hx hb d_MD_into_173 rfl (lv_at hl 5 rfl) ?_
                                refine lv_iconst (v := 1) hx hb d_MD_into_174 (by decide) ?_
                                refine lv_iload_n hx hb d_MD_into_175 rfl (lv_at hl 4 rfl) ?_
                                obtain ⟨r32, g_r32, h⟩ := ob_some h
                                refine cl_MD_157 (rest := []) C hD (hml.trans hl.1.symm) hW g_r32 ⟨Nat.le_of_ble_eq_true rfl, Nat.le_of_ble_eq_true rfl⟩ (Nat.le_of_ble_eq_true rfl) d_MD_into_176 ⟨Nat.zero_le _, Nat.zero_le _⟩ (fun H locs hW => ?_)
                                refine lv_iload hx hb d_MD_into_179 (lv_at hl 0 rfl) ?_
                                exact W.iret hx hb hr (fun t ht _ => qr_i h ht hW) hW.2.2.2 d_MD_into_181
                        · rw [if_neg c25] at h
                          refine lv_iconst (v := 4) hx hb d_MD_into_138 (by decide) ?_
                          refine lv_goto (tgt := 164) hx hb d_MD_into_139 (by decide) ?_
                          refine lv_istore (lv' := [(6, .int 4), (5, .int r10), (0, .ref (ad 0)), (1, .int x1), (2, .int x2), (3, .int x3)]) hx hb d_MD_into_164 hl (by decide) rfl (fun ls hl => ?_)
                          refine lv_iload hx hb d_MD_into_166 (lv_at hl 0 rfl) ?_
                          refine lv_if_ne (tgt := 179) hx hb d_MD_into_168 (by decide) (fun c26 => ?_) (fun c26 => ?_)
                          · rw [if_neg c26] at h
                            refine lv_iload hx hb d_MD_into_179 (lv_at hl 0 rfl) ?_
                            exact W.iret hx hb hr (fun t ht _ => qr_i h ht hW) hW.2.2.2 d_MD_into_181
                          · rw [if_pos c26] at h
                            refine lv_aload_n hx hb d_MD_into_171 rfl (lv_at hl 2 rfl) ?_
                            refine lv_iload_n hx hb d_MD_into_172 rfl (lv_at hl 3 rfl) ?_
                            refine lv_iload_n hx hb d_MD_into_173 rfl (lv_at hl 5 rfl) ?_
                            refine lv_iconst (v := 1) hx hb d_MD_into_174 (by decide) ?_
                            refine lv_iload_n hx hb d_MD_into_175 rfl (lv_at hl 4 rfl) ?_
                            obtain ⟨r27, g_r27, h⟩ := ob_some h
                            refine cl_MD_157 (rest := []) C hD (hml.trans hl.1.symm) hW g_r27 ⟨Nat.le_of_ble_eq_true rfl, Nat.le_of_ble_eq_true rfl⟩ (Nat.le_of_ble_eq_true rfl) d_MD_into_176 ⟨Nat.zero_le _, Nat.zero_le _⟩ (fun H locs hW => ?_)
                            refine lv_iload hx hb d_MD_into_179 (lv_at hl 0 rfl) ?_
                            exact W.iret hx hb hr (fun t ht _ => qr_i h ht hW) hW.2.2.2 d_MD_into_181
                      · rw [if_neg c20] at h
                        refine lv_iconst (v := 3) hx hb d_MD_into_118 (by decide) ?_
                        refine lv_goto (tgt := 164) hx hb d_MD_into_119 (by decide) ?_
                        refine lv_istore (lv' := [(6, .int 3), (5, .int r10), (0, .ref (ad 0)), (1, .int x1), (2, .int x2), (3, .int x3)]) hx hb d_MD_into_164 hl (by decide) rfl (fun ls hl => ?_)
                        refine lv_iload hx hb d_MD_into_166 (lv_at hl 0 rfl) ?_
                        refine lv_if_ne (tgt := 179) hx hb d_MD_into_168 (by decide) (fun c21 => ?_) (fun c21 => ?_)
                        · rw [if_neg c21] at h
                          refine lv_iload hx hb d_MD_into_179 (lv_at hl 0 rfl) ?_
                          exact W.iret hx hb hr (fun t ht _ => qr_i h ht hW) hW.2.2.2 d_MD_into_181
                        · rw [if_pos c21] at h
                          refine lv_aload_n hx hb d_MD_into_171 rfl (lv_at hl 2 rfl) ?_
                          refine lv_iload_n hx hb d_MD_into_172 rfl (lv_at hl 3 rfl) ?_
                          refine lv_iload_n hx hb d_MD_into_173 rfl (lv_at hl 5 rfl) ?_
                          refine lv_iconst (v := 1) hx hb d_MD_into_174 (by decide) ?_
                          refine lv_iload_n hx hb d_MD_into_175 rfl (lv_at hl 4 rfl) ?_
                          obtain ⟨r22, g_r22, h⟩ := ob_some h
                          refine cl_MD_157 (rest := []) C hD (hml.trans hl.1.symm) hW g_r22 ⟨Nat.le_of_ble_eq_true rfl, Nat.le_of_ble_eq_true rfl⟩ (Nat.le_of_ble_eq_true rfl) d_MD_into_176 ⟨Nat.zero_le _, Nat.zero_le _⟩ (fun H locs hW => ?_)
                          refine lv_iload hx hb d_MD_into_179 (lv_at hl 0 rfl) ?_
                          exact W.iret hx hb hr (fun t ht _ => qr_i h ht hW) hW.2.2.2 d_MD_into_181
                    · rw [if_pos c17] at h
                      refine lv_iconst (v := 2) hx hb d_MD_into_105 (by decide) ?_
                      refine lv_goto (tgt := 164) hx hb d_MD_into_106 (by decide) ?_
                      refine lv_istore (lv' := [(6, .int 2), (5, .int r10), (0, .ref (ad 0)), (1, .int x1), (2, .int x2), (3, .int x3)]) hx hb d_MD_into_164 hl (by decide) rfl (fun ls hl => ?_)
                      refine lv_iload hx hb d_MD_into_166 (lv_at hl 0 rfl) ?_
                      refine lv_if_ne (tgt := 179) hx hb d_MD_into_168 (by decide) (fun c18 => ?_) (fun c18 => ?_)
                      · rw [if_neg c18] at h
                        refine lv_iload hx hb d_MD_into_179 (lv_at hl 0 rfl) ?_
                        exact W.iret hx hb hr (fun t ht _ => qr_i h ht hW) hW.2.2.2 d_MD_into_181
                      · rw [if_pos c18] at h
                        refine lv_aload_n hx hb d_MD_into_171 rfl (lv_at hl 2 rfl) ?_
                        refine lv_iload_n hx hb d_MD_into_172 rfl (lv_at hl 3 rfl) ?_
                        refine lv_iload_n hx hb d_MD_into_173 rfl (lv_at hl 5 rfl) ?_
                        refine lv_iconst (v := 1) hx hb d_MD_into_174 (by decide) ?_
                        refine lv_iload_n hx hb d_MD_into_175 rfl (lv_at hl 4 rfl) ?_
                        obtain ⟨r19, g_r19, h⟩ := ob_some h
                        refine cl_MD_157 (rest := []) C hD (hml.trans hl.1.symm) hW g_r19 ⟨Nat.le_of_ble_eq_true rfl, Nat.le_of_ble_eq_true rfl⟩ (Nat.le_of_ble_eq_true rfl) d_MD_into_176 ⟨Nat.zero_le _, Nat.zero_le _⟩ (fun H locs hW => ?_)
                        refine lv_iload hx hb d_MD_into_179 (lv_at hl 0 rfl) ?_
                        exact W.iret hx hb hr (fun t ht _ => qr_i h ht hW) hW.2.2.2 d_MD_into_181
                  · rw [if_neg c13] at h
                    have k92 : ∀ (x1 : Int32) (x2 : Int32) (x3 : Int32) (σ : Sg) (h : C_MD_into_92 x1 x2 x3 σ = some out) (H : Heap) (locs : List Loc) (hW : WR G ad cI cZ s σ H locs) (ls : Array Slot) (hl : lv_has ls 7 [(0, .ref (ad 0)), (1, .int x1), (2, .int x2), (3, .int x3)]), W p l e (headSpec wl_MD_into ({ frames := 5, cells := 0, slots := 0, locals := 122 } : Room)).room s m (([.ref (ad 0), .int a1, .int a2, .int a3] : List Value).toArray) below meth c H locs 0 0 (MQ below (QRi G ad cI cZ out) (([.ref (ad 0), .int a1, .int a2, .int a3] : List Value).toArray) s 0 0 (AR ad)) (F0 m 92 ls []) := by
                      intro x1 x2 x3 σ h H locs hW ls hl
                      unfold C_MD_into_92 at h
                      refine lv_iconst (v := 1) hx hb d_MD_into_92 (by decide) ?_
                      refine lv_goto (tgt := 164) hx hb d_MD_into_93 (by decide) ?_
                      refine lv_istore (lv' := [(6, .int 1), (0, .ref (ad 0)), (1, .int x1), (2, .int x2), (3, .int x3)]) hx hb d_MD_into_164 hl (by decide) rfl (fun ls hl => ?_)
                      refine lv_iload hx hb d_MD_into_166 (lv_at hl 0 rfl) ?_
                      refine lv_if_ne (tgt := 179) hx hb d_MD_into_168 (by decide) (fun c14 => ?_) (fun c14 => ?_)
                      · rw [if_neg c14] at h
                        refine lv_iload hx hb d_MD_into_179 (lv_at hl 0 rfl) ?_
                        exact W.iret hx hb hr (fun t ht _ => qr_i h ht hW) hW.2.2.2 d_MD_into_181
                      · rw [if_pos c14] at h
                        refine lv_aload_n hx hb d_MD_into_171 rfl (lv_at hl 1 rfl) ?_
                        refine lv_iload_n hx hb d_MD_into_172 rfl (lv_at hl 2 rfl) ?_
                        refine lv_iload_n hx hb d_MD_into_173 rfl (lv_at hl 4 rfl) ?_
                        refine lv_iconst (v := 1) hx hb d_MD_into_174 (by decide) ?_
                        refine lv_iload_n hx hb d_MD_into_175 rfl (lv_at hl 3 rfl) ?_
                        obtain ⟨r15, g_r15, h⟩ := ob_some h
                        refine cl_MD_157 (rest := []) C hD (hml.trans hl.1.symm) hW g_r15 ⟨Nat.le_of_ble_eq_true rfl, Nat.le_of_ble_eq_true rfl⟩ (Nat.le_of_ble_eq_true rfl) d_MD_into_176 ⟨Nat.zero_le _, Nat.zero_le _⟩ (fun H locs hW => ?_)
                        refine lv_iload hx hb d_MD_into_179 (lv_at hl 0 rfl) ?_
                        exact W.iret hx hb hr (fun t ht _ => qr_i h ht hW) hW.2.2.2 d_MD_into_181
                    exact k92 x1 x2 x3 r8.2 h _ _ hW _ (lv_sub hl [1, 2, 3, 4] rfl)
              · rw [if_pos c9] at h
                refine lv_iconst (v := 0) hx hb d_MD_into_63 (by decide) ?_
                exact W.iret hx hb hr (fun t ht _ => qr_i h ht hW) hW.2.2.2 d_MD_into_64
            exact k57 x1 x2 x3 1 r5 s0 σ h _ _ hW _ (lv_sub hl [1, 2, 3, 4] rfl)
      exact k21 a1 a2 a3 1 σ h _ _ hW _ (lv_sub hl [0, 1, 2, 3] rfl)
