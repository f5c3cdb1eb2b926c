abbrev wl_MD_row : List Cond := .code ⟨"PlaceMovesModel", "row", "(IIII)V"⟩ prog_9_method_22_code 6 none :: WG
set_option maxHeartbeats 4000000 in
set_option maxRecDepth 100000 in
theorem c_MD_row (l : Launch) (G : va_G) (ad : Nat → Nat) (cI cZ : ClassId) (hD : DR ad) (σ : Sg) (a1 : Int32) (a2 : Int32) (a3 : Int32) (a4 : Int32) (out : Sg) (h : f_MD_row σ a1 a2 a3 a4 = some out) : Met l ⟨"PlaceMovesModel", "row", "(IIII)V"⟩ wl_MD_row ({ frames := 0, cells := 0, slots := 0, locals := 0 } : Room) (PcR G ad cI cZ σ [.ref (ad 0), .int a1, .int a2, .int a3, .int a4]) (QRv G ad cI cZ out) 0 0 (AR ad) := by
  refine Met.ofW (cc := prog_9_method_22_code) (maxL := 6) (ret := none) (by decide) rfl ?_
  intro p e s m args below meth c s₁ B hml hv
  obtain ⟨rfl, hP, hK⟩ := hv
  have hx := B.exec
  have hb := B.bytes
  have hr := B.returns
  have hts0 := atoms_spec (ws := wl_MD_row) B.pre
  have hts : ∀ w ∈ WG, w.before _ s = true := fun w hw => hts0 w (List.mem_cons_of_mem _ hw)
  have hown : s.vm.findClass "PlaceMovesModel" = some m.cls := findClass_of_methodNamed B.named
  have hlocks := B.notSynchronized
  have C : CX "PlaceMovesModel" prog_9_method_22_code p s m _ c G cI cZ := ⟨hx, hb, hown, hts, hK⟩
  have hl := lv_entry ([.ref (ad 0), .int a1, .int a2, .int a3, .int a4]) (n := 6) (Nat.le_of_ble_eq_true rfl)
  rw [lg_entry_eq]
  generalize (lg_sl ([.ref (ad 0), .int a1, .int a2, .int a3, .int a4]) ++ List.replicate (6 - (lg_sl ([.ref (ad 0), .int a1, .int a2, .int a3, .int a4])).length) Slot.unset).toArray = ls at hl ⊢
  have hl : lv_has ls 6 [(0, .ref (ad 0)), (1, .int a1), (2, .int a2), (3, .int a3), (4, .int a4)] := hl
  unfold f_MD_row at h
  have hW : WR G ad cI cZ s σ s.heap [] := ⟨hP, va_S.rf⟩
  refine lv_bipush (v := 40) hx hb d_MD_row_0 (by decide) ?_
  refine lv_iload_n hx hb d_MD_row_2 rfl (lv_at hl 1 rfl) ?_
  refine lv_imul hx hb d_MD_row_3 ?_
  refine lv_aload_n hx hb d_MD_row_4 rfl (lv_at hl 0 rfl) ?_
  refine gf_MD_32 C hW.1 d_MD_row_5 ?_
  refine lv_iload_n hx hb d_MD_row_8 rfl (lv_at hl 1 rfl) ?_
  obtain ⟨hin, h⟩ := gd_some h
  refine alR_8 C hW.1 hin d_MD_row_9 ?_
  refine lv_iadd hx hb d_MD_row_10 ?_
  obtain ⟨y1, e_y1, h⟩ := lt1_some h
  refine W.eq (g2 := F0 m 11 ls (.int y1 :: [])) (by rw [e_y1]) ?_
  refine lv_istore (lv' := [(5, .int y1), (0, .ref (ad 0)), (1, .int a1), (2, .int a2), (3, .int a3), (4, .int a4)]) hx hb d_MD_row_11 hl (by decide) rfl (fun ls hl => ?_)
  refine lv_aload_n hx hb d_MD_row_13 rfl (lv_at hl 1 rfl) ?_
  refine gf_MD_35 C hW.1 d_MD_row_14 ?_
  refine lv_iload hx hb d_MD_row_17 (lv_at hl 0 rfl) ?_
  refine lv_iload_n hx hb d_MD_row_19 rfl (lv_at hl 3 rfl) ?_
  obtain ⟨hin, h⟩ := gd_some h
  refine asR_9 C hD hW hin d_MD_row_20 (fun H locs hW => ?_)
  obtain ⟨σ2, e_σ2, h⟩ := lt1_some h
  rw [← e_σ2] at hW
  refine lv_aload_n hx hb d_MD_row_21 rfl (lv_at hl 1 rfl) ?_
  refine gf_MD_38 C hW.1 d_MD_row_22 ?_
  refine lv_iload hx hb d_MD_row_25 (lv_at hl 0 rfl) ?_
  refine lv_iload_n hx hb d_MD_row_27 rfl (lv_at hl 4 rfl) ?_
  obtain ⟨hin, h⟩ := gd_some h
  refine asR_10 C hD hW hin d_MD_row_28 (fun H locs hW => ?_)
  obtain ⟨σ3, e_σ3, h⟩ := lt1_some h
  rw [← e_σ3] at hW
  refine lv_aload_n hx hb d_MD_row_29 rfl (lv_at hl 1 rfl) ?_
  refine gf_MD_41 C hW.1 d_MD_row_30 ?_
  refine lv_iload hx hb d_MD_row_33 (lv_at hl 0 rfl) ?_
  refine lv_iload hx hb d_MD_row_35 (lv_at hl 5 rfl) ?_
  obtain ⟨hin, h⟩ := gd_some h
  refine asR_11 C hD hW hin d_MD_row_37 (fun H locs hW => ?_)
  obtain ⟨σ4, e_σ4, h⟩ := lt1_some h
  rw [← e_σ4] at hW
  refine lv_aload_n hx hb d_MD_row_38 rfl (lv_at hl 1 rfl) ?_
  refine gf_MD_32 C hW.1 d_MD_row_39 ?_
  refine lv_iload_n hx hb d_MD_row_42 rfl (lv_at hl 2 rfl) ?_
  refine lv_dup2_11 hx hb d_MD_row_43 rfl rfl ?_
  obtain ⟨hin, h⟩ := gd_some h
  refine alR_8 C hW.1 hin d_MD_row_44 ?_
  refine lv_iconst (v := 1) hx hb d_MD_row_45 (by decide) ?_
  refine lv_iadd hx hb d_MD_row_46 ?_
  obtain ⟨hin, h⟩ := gd_some h
  refine asR_8 C hD hW hin d_MD_row_47 (fun H locs hW => ?_)
  obtain ⟨σ5, e_σ5, h⟩ := lt1_some h
  rw [← e_σ5] at hW
  refine lv_aload_n hx hb d_MD_row_48 rfl (lv_at hl 1 rfl) ?_
  refine lv_iload_n hx hb d_MD_row_49 rfl (lv_at hl 3 rfl) ?_
  refine pf_MD_145 C hD hW d_MD_row_50 (fun H locs hW => ?_)
  obtain ⟨σ6, e_σ6, h⟩ := lt1_some h
  rw [← e_σ6] at hW
  exact W.vret hx hb hr (fun t ht _ => qr_v h ht hW) hW.2.2.2 d_MD_row_53
section RC
variable {p : Program} {l : Launch} {e : Env} {R : Room} {s : State} {m : MethodId} {args : Array Value} {below : List Frame} {meth : Method} {c : Code} {H : Heap} {locs : List Loc} {cells slots : Nat} {Q : State → Prop}
variable {cc : ByteArray} {pc : Nat} {ls : Array Slot} {rest : List Value} {G : va_G} {ad : Nat → Nat} {cI cZ : ClassId} {σ : Sg} {own : String}
theorem cl_MD_157 (C : CX "PlaceMovesModel" cc p s m args c G cI cZ) (hD : DR ad) (hml : c.maxLocals = ls.size) (hW : WR G ad cI cZ s σ H locs) {x1 : Int32} {x2 : Int32} {x3 : Int32} {x4 : Int32} {r : Sg} (hg : f_MD_row σ x1 x2 x3 x4 = some r) (hR : 0 + 1 ≤ R.frames ∧ 8 + (6 + 11) + 0 ≤ R.locals) (hrest : (rest.map fun v => v.category).sum ≤ 8) (hd : decode cc pc = .ok (.invokevirtual 157, 3)) (hcs : cells + 0 ≤ R.cells ∧ slots + 0 ≤ R.slots) (kk : ∀ (H1 : Heap) (locs1 : List Loc), WR G ad cI cZ s (r) H1 locs1 → W p l e R s m args below meth c H1 locs1 cells slots Q (F0 m (pc + 3) ls rest)) : W p l e R s m args below meth c H locs cells slots Q (F0 m pc ls (.int x4 :: .int x3 :: .int x2 :: .int x1 :: .ref (ad 0) :: rest)) :=
  va_callv (va_runV (As := [.int x1, .int x2, .int x3, .int x4]) (rest := rest) ⟨C.1, C.2.1, hml, C.2.2.1, C.2.2.2.1⟩ (c_MD_row l G ad cI cZ hD σ x1 x2 x3 x4 r hg) (cwV 4 C.2.2.2.1 (wg_V w_784 w_786 ws_29 w_8 w_787) rfl rfl rfl (by decide +kernel) hR) ⟨PcR.blind, va_recv C.2.2.2.2.1 hW.1 (ci := 7) (q0 := 0) rfl rfl, fun U hU hZ => ⟨rfl, by rw [hU]; exact hW.1, C.2.2.2.2.warm hZ⟩⟩ rfl rfl rfl rfl (lv_room hrest) hd hcs) hW.2 (fun _ _ z => z) (fun _ z => z) (fun u t H1 locs1 ht _ _ hB _ _ hS => kk H1 locs1 ⟨by rw [← ht]; exact hB, hS⟩)
end RC
abbrev wl_MD_mayOpen : List Cond := .code ⟨"PlaceMovesModel", "mayOpen", "(III)Z"⟩ prog_9_method_23_code 4 (some FieldType.boolean) :: WG
set_option maxHeartbeats 4000000 in
set_option maxRecDepth 100000 in
theorem c_MD_mayOpen (l : Launch) (G : va_G) (ad : Nat → Nat) (cI cZ : ClassId) (σ : Sg) (a1 : Int32) (a2 : Int32) (a3 : Int32) (out : Int32) (h : f_MD_mayOpen σ a1 a2 a3 = some out) : Met l ⟨"PlaceMovesModel", "mayOpen", "(III)Z"⟩ wl_MD_mayOpen ({ frames := 0, cells := 0, slots := 0, locals := 0 } : Room) (PcR G ad cI cZ σ [.ref (ad 0), .int a1, .int a2, .int a3]) (vp_Si (fun r => r = out)) 0 0 (fun _ => False) := by
  refine Met.ofW (cc := prog_9_method_23_code) (maxL := 4) (ret := (some FieldType.boolean)) (by decide) rfl ?_
  intro p e s m args below meth c s₁ B hml hv
  obtain ⟨rfl, hP, hK⟩ := hv
  have hx := B.exec
  have hb := B.bytes
  have hr := B.returns
  have hts0 := atoms_spec (ws := wl_MD_mayOpen) B.pre
  have hts : ∀ w ∈ WG, w.before _ s = true := fun w hw => hts0 w (List.mem_cons_of_mem _ hw)
  have hown : s.vm.findClass "PlaceMovesModel" = some m.cls := findClass_of_methodNamed B.named
  have hlocks := B.notSynchronized
  have C : CX "PlaceMovesModel" prog_9_method_23_code p s m _ c G cI cZ := ⟨hx, hb, hown, hts, hK⟩
  have hl := lv_entry ([.ref (ad 0), .int a1, .int a2, .int a3]) (n := 4) (Nat.le_of_ble_eq_true rfl)
  rw [lg_entry_eq]
  generalize (lg_sl ([.ref (ad 0), .int a1, .int a2, .int a3]) ++ List.replicate (4 - (lg_sl ([.ref (ad 0), .int a1, .int a2, .int a3])).length) Slot.unset).toArray = ls at hl ⊢
  have hl : lv_has ls 4 [(0, .ref (ad 0)), (1, .int a1), (2, .int a2), (3, .int a3)] := hl
  unfold f_MD_mayOpen at h
  refine lv_aload_n hx hb d_MD_mayOpen_0 rfl (lv_at hl 0 rfl) ?_
  refine gf_MD_22 C hP d_MD_mayOpen_1 ?_
  refine lv_iload_n hx hb d_MD_mayOpen_4 rfl (lv_at hl 1 rfl) ?_
  obtain ⟨hin, h⟩ := gd_some h
  refine alR_5 C hP hin d_MD_mayOpen_5 ?_
  refine lv_if_eq (tgt := 61) hx hb d_MD_mayOpen_6 (by decide) (fun c1 => ?_) (fun c1 => ?_)
  · rw [if_pos c1] at h
    refine lv_iconst (v := 1) hx hb d_MD_mayOpen_61 (by decide) ?_
    refine lv_goto (tgt := 66) hx hb d_MD_mayOpen_62 (by decide) ?_
    exact W.zret hx hb hr rfl (fun t ht _ => ⟨_, rfl, Option.some.inj h, ht⟩) (fun _ hq => nomatch hq) d_MD_mayOpen_66
  · rw [if_neg c1] at h
    refine lv_aload_n hx hb d_MD_mayOpen_9 rfl (lv_at hl 0 rfl) ?_
    refine gf_MD_22 C hP d_MD_mayOpen_10 ?_
    refine lv_iload_n hx hb d_MD_mayOpen_13 rfl (lv_at hl 1 rfl) ?_
    obtain ⟨hin, h⟩ := gd_some h
    refine alR_5 C hP hin d_MD_mayOpen_14 ?_
    refine lv_iconst (v := 1) hx hb d_MD_mayOpen_15 (by decide) ?_
    refine lv_icmp_ne (tgt := 28) hx hb d_MD_mayOpen_16 (by decide) (fun c2 => ?_) (fun c2 => ?_)
    · rw [if_neg c2] at h
      have k28 : ∀ (x1 : Int32) (x2 : Int32) (x3 : Int32) (h : C_MD_mayOpen_28 σ x1 x2 x3 = some out) (ls : Array Slot) (hl : lv_has ls 4 [(0, .ref (ad 0)), (1, .int x1), (2, .int x2), (3, .int x3)]), W p l e (headSpec wl_MD_mayOpen ({ frames := 0, cells := 0, slots := 0, locals := 0 } : Room)).room s m (([.ref (ad 0), .int a1, .int a2, .int a3] : List Value).toArray) below meth c s.heap [] 0 0 (MQ below (vp_Si (fun r => r = out)) (([.ref (ad 0), .int a1, .int a2, .int a3] : List Value).toArray) s 0 0 (fun _ => False)) (F0 m 28 ls []) := by
        intro x1 x2 x3 h ls hl
        unfold C_MD_mayOpen_28 at h
        refine lv_aload_n hx hb d_MD_mayOpen_28 rfl (lv_at hl 0 rfl) ?_
        refine gf_MD_22 C hP d_MD_mayOpen_29 ?_
        refine lv_iload_n hx hb d_MD_mayOpen_32 rfl (lv_at hl 1 rfl) ?_
        obtain ⟨hin, h⟩ := gd_some h
        refine alR_5 C hP hin d_MD_mayOpen_33 ?_
        refine lv_iconst (v := 2) hx hb d_MD_mayOpen_34 (by decide) ?_
        refine lv_icmp_ne (tgt := 65) hx hb d_MD_mayOpen_35 (by decide) (fun c8 => ?_) (fun c8 => ?_)
        · rw [if_neg c8] at h
          refine lv_iconst (v := 0) hx hb d_MD_mayOpen_65 (by decide) ?_
          exact W.zret hx hb hr rfl (fun t ht _ => ⟨_, rfl, Option.some.inj h, ht⟩) (fun _ hq => nomatch hq) d_MD_mayOpen_66
        · rw [if_pos c8] at h
          refine lv_aload_n hx hb d_MD_mayOpen_38 rfl (lv_at hl 0 rfl) ?_
          refine gf_MD_29 C hP d_MD_mayOpen_39 ?_
          refine lv_iload_n hx hb d_MD_mayOpen_42 rfl (lv_at hl 2 rfl) ?_
          obtain ⟨hin, h⟩ := gd_some h
          refine alR_7 C hP hin d_MD_mayOpen_43 ?_
          refine lv_if_eq (tgt := 65) hx hb d_MD_mayOpen_44 (by decide) (fun c9 => ?_) (fun c9 => ?_)
          · rw [if_pos c9] at h
            refine lv_iconst (v := 0) hx hb d_MD_mayOpen_65 (by decide) ?_
            exact W.zret hx hb hr rfl (fun t ht _ => ⟨_, rfl, Option.some.inj h, ht⟩) (fun _ hq => nomatch hq) d_MD_mayOpen_66
          · rw [if_neg c9] at h
            refine lv_aload_n hx hb d_MD_mayOpen_47 rfl (lv_at hl 0 rfl) ?_
            refine gf_MD_29 C hP d_MD_mayOpen_48 ?_
            refine lv_iload_n hx hb d_MD_mayOpen_51 rfl (lv_at hl 3 rfl) ?_
            obtain ⟨hin, h⟩ := gd_some h
            refine alR_7 C hP hin d_MD_mayOpen_52 ?_
            refine lv_if_eq (tgt := 65) hx hb d_MD_mayOpen_53 (by decide) (fun c10 => ?_) (fun c10 => ?_)
            · rw [if_pos c10] at h
              refine lv_iconst (v := 0) hx hb d_MD_mayOpen_65 (by decide) ?_
              exact W.zret hx hb hr rfl (fun t ht _ => ⟨_, rfl, Option.some.inj h, ht⟩) (fun _ hq => nomatch hq) d_MD_mayOpen_66
            · rw [if_neg c10] at h
              refine lv_iload_n hx hb d_MD_mayOpen_56 rfl (lv_at hl 2 rfl) ?_
              refine lv_iload_n hx hb d_MD_mayOpen_57 rfl (lv_at hl 3 rfl) ?_
              refine lv_icmp_eq (tgt := 65) hx hb d_MD_mayOpen_58 (by decide) (fun c11 => ?_) (fun c11 => ?_)
              · rw [if_pos c11] at h
                refine lv_iconst (v := 0) hx hb d_MD_mayOpen_65 (by decide) ?_
                exact W.zret hx hb hr rfl (fun t ht _ => ⟨_, rfl, Option.some.inj h, ht⟩) (fun _ hq => nomatch hq) d_MD_mayOpen_66
              · rw [if_neg c11] at h
                refine lv_iconst (v := 1) hx hb d_MD_mayOpen_61 (by decide) ?_
                refine lv_goto (tgt := 66) hx hb d_MD_mayOpen_62 (by decide) ?_
                exact W.zret hx hb hr rfl (fun t ht _ => ⟨_, rfl, Option.some.inj h, ht⟩) (fun _ hq => nomatch hq) d_MD_mayOpen_66
      exact k28 a1 a2 a3 h _ (lv_sub hl [0, 1, 2, 3] rfl)
    · rw [if_pos c2] at h
      refine lv_aload_n hx hb d_MD_mayOpen_19 rfl (lv_at hl 0 rfl) ?_
      refine gf_MD_29 C hP d_MD_mayOpen_20 ?_
      refine lv_iload_n hx hb d_MD_mayOpen_23 rfl (lv_at hl 2 rfl) ?_
      obtain ⟨hin, h⟩ := gd_some h
      refine alR_7 C hP hin d_MD_mayOpen_24 ?_
      refine lv_if_ne (tgt := 61) hx hb d_MD_mayOpen_25 (by decide) (fun c3 => ?_) (fun c3 => ?_)
      · rw [if_neg c3] at h
        refine lv_iconst (v := 1) hx hb d_MD_mayOpen_61 (by decide) ?_
        refine lv_goto (tgt := 66) hx hb d_MD_mayOpen_62 (by decide) ?_
        exact W.zret hx hb hr rfl (fun t ht _ => ⟨_, rfl, Option.some.inj h, ht⟩) (fun _ hq => nomatch hq) d_MD_mayOpen_66
      · rw [if_pos c3] at h
        have k28 : ∀ (x1 : Int32) (x2 : Int32) (x3 : Int32) (h : C_MD_mayOpen_28 σ x1 x2 x3 = some out) (ls : Array Slot) (hl : lv_has ls 4 [(0, .ref (ad 0)), (1, .int x1), (2, .int x2), (3, .int x3)]), W p l e (headSpec wl_MD_mayOpen ({ frames := 0, cells := 0, slots := 0, locals := 0 } : Room)).room s m (([.ref (ad 0), .int a1, .int a2, .int a3] : List Value).toArray) below meth c s.heap [] 0 0 (MQ below (vp_Si (fun r => r = out)) (([.ref (ad 0), .int a1, .int a2, .int a3] : List Value).toArray) s 0 0 (fun _ => False)) (F0 m 28 ls []) := by
          intro x1 x2 x3 h ls hl
          unfold C_MD_mayOpen_28 at h
          refine lv_aload_n hx hb d_MD_mayOpen_28 rfl (lv_at hl 0 rfl) ?_
          refine gf_MD_22 C hP d_MD_mayOpen_29 ?_
          refine lv_iload_n hx hb d_MD_mayOpen_32 rfl (lv_at hl 1 rfl) ?_
          obtain ⟨hin, h⟩ := gd_some h
          refine alR_5 C hP hin d_MD_mayOpen_33 ?_
          refine lv_iconst (v := 2) hx hb d_MD_mayOpen_34 (by decide) ?_
          refine lv_icmp_ne (tgt := 65) hx hb d_MD_mayOpen_35 (by decide) (fun c4 => ?_) (fun c4 => ?_)
          · rw [if_neg c4] at h
            refine lv_iconst (v := 0) hx hb d_MD_mayOpen_65 (by decide) ?_
            exact W.zret hx hb hr rfl (fun t ht _ => ⟨_, rfl, Option.some.inj h, ht⟩) (fun _ hq => nomatch hq) d_MD_mayOpen_66
          · rw [if_pos c4] at h
            refine lv_aload_n hx hb d_MD_mayOpen_38 rfl (lv_at hl 0 rfl) ?_
            refine gf_MD_29 C hP d_MD_mayOpen_39 ?_
            refine lv_iload_n hx hb d_MD_mayOpen_42 rfl (lv_at hl 2 rfl) ?_
            obtain ⟨hin, h⟩ := gd_some h
            refine alR_7 C hP hin d_MD_mayOpen_43 ?_
            refine lv_if_eq (tgt := 65) hx hb d_MD_mayOpen_44 (by decide) (fun c5 => ?_) (fun c5 => ?_)
            · rw [if_pos c5] at h
              refine lv_iconst (v := 0) hx hb d_MD_mayOpen_65 (by decide) ?_
              exact W.zret hx hb hr rfl (fun t ht _ => ⟨_, rfl, Option.some.inj h, ht⟩) (fun _ hq => nomatch hq) d_MD_mayOpen_66
            · rw [if_neg c5] at h
              refine lv_aload_n hx hb d_MD_mayOpen_47 rfl (lv_at hl 0 rfl) ?_
              refine gf_MD_29 C hP d_MD_mayOpen_48 ?_
              refine lv_iload_n hx hb d_MD_mayOpen_51 rfl (lv_at hl 3 rfl) ?_
              obtain ⟨hin, h⟩ := gd_some h
              refine alR_7 C hP hin d_MD_mayOpen_52 ?_
              refine lv_if_eq (tgt := 65) hx hb d_MD_mayOpen_53 (by decide) (fun c6 => ?_) (fun c6 => ?_)
              · rw [if_pos c6] at h
                refine lv_iconst (v := 0) hx hb d_MD_mayOpen_65 (by decide) ?_
                exact W.zret hx hb hr rfl (fun t ht _ => ⟨_, rfl, Option.some.inj h, ht⟩) (fun _ hq => nomatch hq) d_MD_mayOpen_66
              · rw [if_neg c6] at h
                refine lv_iload_n hx hb d_MD_mayOpen_56 rfl (lv_at hl 2 rfl) ?_
                refine lv_iload_n hx hb d_MD_mayOpen_57 rfl (lv_at hl 3 rfl) ?_
                refine lv_icmp_eq (tgt := 65) hx hb d_MD_mayOpen_58 (by decide) (fun c7 => ?_) (fun c7 => ?_)
                · rw [if_pos c7] at h
                  refine lv_iconst (v := 0) hx hb d_MD_mayOpen_65 (by decide) ?_
                  exact W.zret hx hb hr rfl (fun t ht _ => ⟨_, rfl, Option.some.inj h, ht⟩) (fun _ hq => nomatch hq) d_MD_mayOpen_66
                · rw [if_neg c7] at h
                  refine lv_iconst (v := 1) hx hb d_MD_mayOpen_61 (by decide) ?_
                  refine lv_goto (tgt := 66) hx hb d_MD_mayOpen_62 (by decide) ?_
                  exact W.zret hx hb hr rfl (fun t ht _ => ⟨_, rfl, Option.some.inj h, ht⟩) (fun _ hq => nomatch hq) d_MD_mayOpen_66
        exact k28 a1 a2 a3 h _ (lv_sub hl [0, 1, 2, 3] rfl)
section RC
variable {p : Program} {l : Launch} {e : Env} {R : Room} {s : State} {m : MethodId} {args : Array Value} {below : List Frame} {meth : Method} {c : Code} {H : Heap} {locs : List Loc} {cells slots : Nat} {Q : State → Prop}
variable {cc : ByteArray} {pc : Nat} {ls : Array Slot} {rest : List Value} {G : va_G} {ad : Nat → Nat} {cI cZ : ClassId} {σ : Sg} {own : String}
theorem cl_MD_148 (C : CX "PlaceMovesModel" cc p s m args c G cI cZ) (hml : c.maxLocals = ls.size) (hP : va_P G clX (wR ad cI cZ σ) H) {x1 : Int32} {x2 : Int32} {x3 : Int32} {r : Int32} (hg : f_MD_mayOpen σ x1 x2 x3 = some r) (hR : 0 + 1 ≤ R.frames ∧ 8 + (4 + 11) + 0 ≤ R.locals) (hrest : (rest.map fun v => v.category).sum ≤ 8) (hd : decode cc pc = .ok (.invokevirtual 148, 3)) (hcs : cells + 0 ≤ R.cells ∧ slots + 0 ≤ R.slots) (kk : W p l e R s m args below meth c H locs cells slots Q (F0 m (pc + 3) ls (.int r :: rest))) : W p l e R s m args below meth c H locs cells slots Q (F0 m pc ls (.int x3 :: .int x2 :: .int x1 :: .ref (ad 0) :: rest)) :=
  vp_callSi (W.runV (As := [.int x1, .int x2, .int x3]) (rest := rest) ⟨C.1, C.2.1, hml, C.2.2.1, C.2.2.2.1⟩ (c_MD_mayOpen l G ad cI cZ σ x1 x2 x3 r hg) (cwV 3 C.2.2.2.1 (wg_V w_748 w_750 ws_20 w_8 w_751) rfl rfl rfl (by decide +kernel) hR) ⟨PcR.blind, va_recv C.2.2.2.2.1 hP (ci := 7) (q0 := 0) rfl rfl, fun U hU hW => ⟨rfl, by rw [hU]; exact hP, C.2.2.2.2.warm hW⟩⟩ rfl rfl rfl rfl (lv_room hrest) hd hcs) (fun r' e => by subst e; exact kk)
end RC
abbrev wl_MD_move : List Cond := .code ⟨"PlaceMovesModel", "move", "(IIIII)I"⟩ prog_9_method_24_code 7 (some FieldType.int) :: WG
set_option maxHeartbeats 4000000 in
set_option maxRecDepth 100000 in
theorem c_MD_move (l : Launch) (G : va_G) (ad : Nat → Nat) (cI cZ : ClassId) (hD : DR ad) (σ : Sg) (a1 : Int32) (a2 : Int32) (a3 : Int32) (a4 : Int32) (a5 : Int32) (out : Int32 × Sg) (h : f_MD_move σ a1 a2 a3 a4 a5 = some out) : Met l ⟨"PlaceMovesModel", "move", "(IIIII)I"⟩ wl_MD_move ({ frames := 5, cells := 0, slots := 0, locals := 122 } : Room) (PcR G ad cI cZ σ [.ref (ad 0), .int a1, .int a2, .int a3, .int a4, .int a5]) (QRi G ad cI cZ out) 0 0 (AR ad) := by
  refine Met.ofW (cc := prog_9_method_24_code) (maxL := 7) (ret := (some FieldType.int)) (by decide) rfl ?_
  intro p e s m args below meth c s₁ B hml hv
  obtain ⟨rfl, hP, hK⟩ := hv
  have hx := B.exec
  have hb := B.bytes
  have hr := B.returns
  have hts0 := atoms_spec (ws := wl_MD_move) B.pre
  have hts : ∀ w ∈ WG, w.before _ s = true := fun w hw => hts0 w (List.mem_cons_of_mem _ hw)
  have hown : s.vm.findClass "PlaceMovesModel" = some m.cls := findClass_of_methodNamed B.named
  have hlocks := B.notSynchronized
  have C : CX "PlaceMovesModel" prog_9_method_24_code p s m _ c G cI cZ := ⟨hx, hb, hown, hts, hK⟩
  have hl := lv_entry ([.ref (ad 0), .int a1, .int a2, .int a3, .int a4, .int a5]) (n := 7) (Nat.le_of_ble_eq_true rfl)
  rw [lg_entry_eq]
  generalize (lg_sl ([.ref (ad 0), .int a1, .int a2, .int a3, .int a4, .int a5]) ++ List.replicate (7 - (lg_sl ([.ref (ad 0), .int a1, .int a2, .int a3, .int a4, .int a5])).length) Slot.unset).toArray = ls at hl ⊢
  have hl : lv_has ls 7 [(0, .ref (ad 0)), (1, .int a1), (2, .int a2), (3, .int a3), (4, .int a4), (5, .int a5)] := hl
  unfold f_MD_move at h
  have hW : WR G ad cI cZ s σ s.heap [] := ⟨hP, va_S.rf⟩
  refine lv_aload_n hx hb d_MD_move_0 rfl (lv_at hl 0 rfl) ?_
  refine lv_iload_n hx hb d_MD_move_1 rfl (lv_at hl 1 rfl) ?_
  obtain ⟨r1, g_r1, h⟩ := ob_some h
  refine cl_MD_110 (rest := []) C (hml.trans hl.1.symm) hW.1 g_r1 ⟨Nat.le_of_ble_eq_true rfl, Nat.le_of_ble_eq_true rfl⟩ (Nat.le_of_ble_eq_true rfl) d_MD_move_2 ⟨Nat.zero_le _, Nat.zero_le _⟩ ?_
  refine lv_if_eq (tgt := 36) hx hb d_MD_move_5 (by decide) (fun c2 => ?_) (fun c2 => ?_)
  · rw [if_pos c2] at h
    refine lv_iconst (v := 0) hx hb d_MD_move_36 (by decide) ?_
    have k37 : ∀ (x1 : Int32) (x2 : Int32) (x3 : Int32) (x4 : Int32) (x5 : Int32) (s0 : Int32) (σ : Sg) (h : C_MD_move_37 x1 x2 x3 x4 x5 s0 σ = some out) (H : Heap) (locs : List Loc) (hW : WR G ad cI cZ s σ H locs) (ls : Array Slot) (hl : lv_has ls 7 [(0, .ref (ad 0)), (1, .int x1), (2, .int x2), (3, .int x3), (4, .int x4), (5, .int x5)]), W p l e (headSpec wl_MD_move ({ frames := 5, cells := 0, slots := 0, locals := 122 } : Room)).room s m (([.ref (ad 0), .int a1, .int a2, .int a3, .int a4, .int a5] : List Value).toArray) below meth c H locs 0 0 (MQ below (QRi G ad cI cZ out) (([.ref (ad 0), .int a1, .int a2, .int a3, .int a4, .int a5] : List Value).toArray) s 0 0 (AR ad)) (F0 m 37 ls [.int s0]) := by
      intro x1 x2 x3 x4 x5 s0 σ h H locs hW ls hl
      unfold C_MD_move_37 at h
      refine lv_istore (lv' := [(6, .int s0), (0, .ref (ad 0)), (1, .int x1), (2, .int x2), (3, .int x3), (4, .int x4), (5, .int x5)]) hx hb d_MD_move_37 hl (by decide) rfl (fun ls hl => ?_)
      refine lv_aload_n hx hb d_MD_move_39 rfl (lv_at hl 1 rfl) ?_
      refine lv_iload hx hb d_MD_move_40 (lv_at hl 0 rfl) ?_
      refine lv_iload_n hx hb d_MD_move_42 rfl (lv_at hl 4 rfl) ?_
      refine lv_aload_n hx hb d_MD_move_43 rfl (lv_at hl 1 rfl) ?_
      refine gf_MD_145 C hW.1 d_MD_move_44 ?_
      refine lv_ldc (v := 1000000) hx hb hown (hts _ w_724) d_MD_move_47 ?_
      obtain ⟨r157, g_r157, h⟩ := ob_some h
      refine cl_MD_98 (rest := [.int s0, .ref (ad 0)]) C (hml.trans hl.1.symm) hW.1 g_r157 ⟨Nat.le_of_ble_eq_true rfl, Nat.le_of_ble_eq_true rfl⟩ (Nat.le_of_ble_eq_true rfl) d_MD_move_49 ⟨Nat.zero_le _, Nat.zero_le _⟩ ?_
      refine lv_iload hx hb d_MD_move_52 (lv_at hl 0 rfl) ?_
      refine lv_if_eq (tgt := 84) hx hb d_MD_move_54 (by decide) (fun c158 => ?_) (fun c158 => ?_)
      · rw [if_pos c158] at h
        refine lv_iconst (v := 0) hx hb d_MD_move_84 (by decide) ?_
        have k85 : ∀ (x1 : Int32) (x2 : Int32) (x3 : Int32) (s0 : Int32) (s1 : Int32) (s2 : Int32) (σ : Sg) (h : C_MD_move_85 x1 x2 x3 s0 s1 s2 σ = some out) (H : Heap) (locs : List Loc) (hW : WR G ad cI cZ s σ H locs) (ls : Array Slot) (hl : lv_has ls 7 [(0, .ref (ad 0)), (1, .int x1), (2, .int x2), (3, .int x3)]), W p l e (headSpec wl_MD_move ({ frames := 5, cells := 0, slots := 0, locals := 122 } : Room)).room s m (([.ref (ad 0), .int a1, .int a2, .int a3, .int a4, .int a5] : List Value).toArray) below meth c H locs 0 0 (MQ below (QRi G ad cI cZ out) (([.ref (ad 0), .int a1, .int a2, .int a3, .int a4, .int a5] : List Value).toArray) s 0 0 (AR ad)) (F0 m 85 ls [.int s0, .int s1, .int s2, .ref (ad 0)]) := by
          intro x1 x2 x3 s0 s1 s2 σ h H locs hW ls hl
          unfold C_MD_move_85 at h
          obtain ⟨r186, g_r186, h⟩ := ob_some h
          refine cl_MD_102 (rest := []) C hD (hml.trans hl.1.symm) hW g_r186 ⟨Nat.le_of_ble_eq_true rfl, Nat.le_of_ble_eq_true rfl⟩ (Nat.le_of_ble_eq_true rfl) d_MD_move_85 ⟨Nat.zero_le _, Nat.zero_le _⟩ (fun H locs hW => ?_)
          refine lv_if_ne (tgt := 93) hx hb d_MD_move_88 (by decide) (fun c187 => ?_) (fun c187 => ?_)
          · rw [if_neg c187] at h
            refine lv_aload_n hx hb d_MD_move_93 rfl (lv_at hl 0 rfl) ?_
            refine lv_aload_n hx hb d_MD_move_94 rfl (lv_at hl 0 rfl) ?_
            refine lv_iload_n hx hb d_MD_move_95 rfl (lv_at hl 1 rfl) ?_
            refine lv_iload_n hx hb d_MD_move_96 rfl (lv_at hl 3 rfl) ?_
            obtain ⟨r188, g_r188, h⟩ := ob_some h
            refine cl_MD_130 (rest := [.ref (ad 0)]) C (hml.trans hl.1.symm) hW.1 g_r188 ⟨Nat.le_of_ble_eq_true rfl, Nat.le_of_ble_eq_true rfl⟩ (Nat.le_of_ble_eq_true rfl) d_MD_move_97 ⟨Nat.zero_le _, Nat.zero_le _⟩ ?_
            refine lv_iload_n hx hb d_MD_move_100 rfl (lv_at hl 2 rfl) ?_
            refine lv_iload_n hx hb d_MD_move_101 rfl (lv_at hl 3 rfl) ?_
            obtain ⟨r189, g_r189, h⟩ := ob_some h
            refine cl_MD_151 (rest := []) C (hml.trans hl.1.symm) hW.1 g_r189 ⟨Nat.le_of_ble_eq_true rfl, Nat.le_of_ble_eq_true rfl⟩ (Nat.le_of_ble_eq_true rfl) d_MD_move_102 ⟨Nat.zero_le _, Nat.zero_le _⟩ ?_
            refine lv_if_eq (tgt := 110) hx hb d_MD_move_105 (by decide) (fun c190 => ?_) (fun c190 => ?_)
            · rw [if_pos c190] at h
              refine lv_aload_n hx hb d_MD_move_110 rfl (lv_at hl 0 rfl) ?_
              refine lv_iload_n hx hb d_MD_move_111 rfl (lv_at hl 1 rfl) ?_
              refine lv_iload_n hx hb d_MD_move_112 rfl (lv_at hl 2 rfl) ?_
              refine lv_iload_n hx hb d_MD_move_113 rfl (lv_at hl 3 rfl) ?_
              obtain ⟨r191, g_r191, h⟩ := ob_some h
              refine cl_MD_154 (rest := []) C hD (hml.trans hl.1.symm) hW g_r191 ⟨Nat.le_of_ble_eq_true rfl, Nat.le_of_ble_eq_true rfl⟩ (Nat.le_of_ble_eq_true rfl) d_MD_move_114 ⟨Nat.zero_le _, Nat.zero_le _⟩ (fun H locs hW => ?_)
              refine lv_if_ne (tgt := 122) hx hb d_MD_move_117 (by decide) (fun c192 => ?_) (fun c192 => ?_)
              · rw [if_neg c192] at h
                refine lv_aload_n hx hb d_MD_move_122 rfl (lv_at hl 0 rfl) ?_
                refine lv_iload_n hx hb d_MD_move_123 rfl (lv_at hl 1 rfl) ?_
                refine lv_iload_n hx hb d_MD_move_124 rfl (lv_at hl 3 rfl) ?_
                refine lv_iconst (v := 0) hx hb d_MD_move_125 (by decide) ?_
                refine lv_iload_n hx hb d_MD_move_126 rfl (lv_at hl 2 rfl) ?_
                obtain ⟨r193, g_r193, h⟩ := ob_some h
                refine cl_MD_157 (rest := []) C hD (hml.trans hl.1.symm) hW g_r193 ⟨Nat.le_of_ble_eq_true rfl, Nat.le_of_ble_eq_true rfl⟩ (Nat.le_of_ble_eq_true rfl) d_MD_move_127 ⟨Nat.zero_le _, Nat.zero_le _⟩ (fun H locs hW => ?_)
                refine lv_iconst (v := 0) hx hb d_MD_move_130 (by decide) ?_
                exact W.iret hx hb hr (fun t ht _ => qr_i h ht hW) hW.2.2.2 d_MD_move_131
              · rw [if_pos c192] at h
                refine lv_iconst (v := 2) hx hb d_MD_move_120 (by decide) ?_
                exact W.iret hx hb hr (fun t ht _ => qr_i h ht hW) hW.2.2.2 d_MD_move_121
            · rw [if_neg c190] at h
              refine lv_iconst (v := 1) hx hb d_MD_move_108 (by decide) ?_
              exact W.iret hx hb hr (fun t ht _ => qr_i h ht hW) hW.2.2.2 d_MD_move_109
          · rw [if_pos c187] at h
            refine lv_iconst (v := 0) hx hb d_MD_move_91 (by decide) ?_
            exact W.iret hx hb hr (fun t ht _ => qr_i h ht hW) hW.2.2.2 d_MD_move_92
        exact k85 x1 x2 x3 0 r157 s0 σ h _ _ hW _ (lv_sub hl [1, 2, 3, 4] rfl)
      · rw [if_neg c158] at h
        refine lv_aload_n hx hb d_MD_move_57 rfl (lv_at hl 1 rfl) ?_
        refine gf_MD_32 C hW.1 d_MD_move_58 ?_
        refine lv_iload_n hx hb d_MD_move_61 rfl (lv_at hl 2 rfl) ?_
        obtain ⟨hin, h⟩ := gd_some h
        refine alR_8 C hW.1 hin d_MD_move_62 ?_
        refine lv_bipush (v := 40) hx hb d_MD_move_63 (by decide) ?_
        refine lv_icmp_ge (tgt := 84) hx hb d_MD_move_65 (by decide) (fun c159 => ?_) (fun c159 => ?_)
        · rw [if_pos c159] at h
          refine lv_iconst (v := 0) hx hb d_MD_move_84 (by decide) ?_
          have k85 : ∀ (x1 : Int32) (x2 : Int32) (x3 : Int32) (s0 : Int32) (s1 : Int32) (s2 : Int32) (σ : Sg) (h : C_MD_move_85 x1 x2 x3 s0 s1 s2 σ = some out) (H : Heap) (locs : List Loc) (hW : WR G ad cI cZ s σ H locs) (ls : Array Slot) (hl : lv_has ls 7 [(0, .ref (ad 0)), (1, .int x1), (2, .int x2), (3, .int x3)]), W p l e (headSpec wl_MD_move ({ frames := 5, cells := 0, slots := 0, locals := 122 } : Room)).room s m (([.ref (ad 0), .int a1, .int a2, .int a3, .int a4, .int a5] : List Value).toArray) below meth c H locs 0 0 (MQ below (QRi G ad cI cZ out) (([.ref (ad 0), .int a1, .int a2, .int a3, .int a4, .int a5] : List Value).toArray) s 0 0 (AR ad)) (F0 m 85 ls [.int s0, .int s1, .int s2, .ref (ad 0)]) := by
            intro x1 x2 x3 s0 s1 s2 σ h H locs hW ls hl
            unfold C_MD_move_85 at h
            obtain ⟨r178, g_r178, h⟩ := ob_some h
            refine cl_MD_102 (rest := []) C hD (hml.trans hl.1.symm) hW g_r178 ⟨Nat.le_of_ble_eq_true rfl, Nat.le_of_ble_eq_true rfl⟩ (Nat.le_of_ble_eq_true rfl) d_MD_move_85 ⟨Nat.zero_le _, Nat.zero_le _⟩ (fun H locs hW => ?_)
            refine lv_if_ne (tgt := 93) hx hb d_MD_move_88 (by decide) (fun c179 => ?_) (fun c179 => ?_)
            · rw [if_neg c179] at h
              refine lv_aload_n hx hb d_MD_move_93 rfl (lv_at hl 0 rfl) ?_
              refine lv_aload_n hx hb d_MD_move_94 rfl (lv_at hl 0 rfl) ?_
              refine lv_iload_n hx hb d_MD_move_95 rfl (lv_at hl 1 rfl) ?_
              refine lv_iload_n hx hb d_MD_move_96 rfl (lv_at hl 3 rfl) ?_
              obtain ⟨r180, g_r180, h⟩ := ob_some h
              refine cl_MD_130 (rest := [.ref (ad 0)]) C (hml.trans hl.1.symm) hW.1 g_r180 ⟨Nat.le_of_ble_eq_true rfl, Nat.le_of_ble_eq_true rfl⟩ (Nat.le_of_ble_eq_true rfl) d_MD_move_97 ⟨Nat.zero_le _, Nat.zero_le _⟩ ?_
              refine lv_iload_n hx hb d_MD_move_100 rfl (lv_at hl 2 rfl) ?_
              refine lv_iload_n hx hb d_MD_move_101 rfl (lv_at hl 3 rfl) ?_
              obtain ⟨r181, g_r181, h⟩ := ob_some h
              refine cl_MD_151 (rest := []) C (hml.trans hl.1.symm) hW.1 g_r181 ⟨Nat.le_of_ble_eq_true rfl, Nat.le_of_ble_eq_true rfl⟩ (Nat.le_of_ble_eq_true rfl) d_MD_move_102 ⟨Nat.zero_le _, Nat.zero_le _⟩ ?_
              refine lv_if_eq (tgt := 110) hx hb d_MD_move_105 (by decide) (fun c182 => ?_) (fun c182 => ?_)
              · rw [if_pos c182] at h
                refine lv_aload_n hx hb d_MD_move_110 rfl (lv_at hl 0 rfl) ?_
                refine lv_iload_n hx hb d_MD_move_111 rfl (lv_at hl 1 rfl) ?_
                refine lv_iload_n hx hb d_MD_move_112 rfl (lv_at hl 2 rfl) ?_
                refine lv_iload_n hx hb d_MD_move_113 rfl (lv_at hl 3 rfl) ?_
                obtain ⟨r183, g_r183, h⟩ := ob_some h
                refine cl_MD_154 (rest := []) C hD (hml.trans hl.1.symm) hW g_r183 ⟨Nat.le_of_ble_eq_true rfl, Nat.le_of_ble_eq_true rfl⟩ (Nat.le_of_ble_eq_true rfl) d_MD_move_114 ⟨Nat.zero_le _, Nat.zero_le _⟩ (fun H locs hW => ?_)
                refine lv_if_ne (tgt := 122) hx hb d_MD_move_117 (by decide) (fun c184 => ?_) (fun c184 => ?_)
                · rw [if_neg c184] at h
                  refine lv_aload_n hx hb d_MD_move_122 rfl (lv_at hl 0 rfl) ?_
                  refine lv_iload_n hx hb d_MD_move_123 rfl (lv_at hl 1 rfl) ?_
                  refine lv_iload_n hx hb d_MD_move_124 rfl (lv_at hl 3 rfl) ?_
                  refine lv_iconst (v := 0) hx hb d_MD_move_125 (by decide) ?_
                  refine lv_iload_n hx hb d_MD_move_126 rfl (lv_at hl 2 rfl) ?_
                  obtain ⟨r185, g_r185, h⟩ := ob_some h
                  refine cl_MD_157 (rest := []) C hD (hml.trans hl.1.symm) hW g_r185 ⟨Nat.le_of_ble_eq_true rfl, Nat.le_of_ble_eq_true rfl⟩ (Nat.le_of_ble_eq_true rfl) d_MD_move_127 ⟨Nat.zero_le _, Nat.zero_le _⟩ (fun H locs hW => ?_)
                  refine lv_iconst (v := 0) hx hb d_MD_move_130 (by decide) ?_
                  exact W.iret hx hb hr (fun t ht _ => qr_i h ht hW) hW.2.2.2 d_MD_move_131
                · rw [if_pos c184] at h
                  refine lv_iconst (v := 2) hx hb d_MD_move_120 (by decide) ?_
                  exact W.iret hx hb hr (fun t ht _ => qr_i h ht hW) hW.2.2.2 d_MD_move_121
              · rw [if_neg c182] at h
                refine lv_iconst (v := 1) hx hb d_MD_move_108 (by decide) ?_
                exact W.iret hx hb hr (fun t ht _ => qr_i h ht hW) hW.2.2.2 d_MD_move_109
            · rw [if_pos c179] at h
              refine lv_iconst (v := 0) hx hb d_MD_move_91 (by decide) ?_
              exact W.iret hx hb hr (fun t ht _ => qr_i h ht hW) hW.2.2.2 d_MD_move_92
          exact k85 x1 x2 x3 0 r157 s0 σ h _ _ hW _ (lv_sub hl [1, 2, 3, 4] rfl)
        · rw [if_neg c159] at h
          refine lv_aload_n hx hb d_MD_move_68 rfl (lv_at hl 1 rfl) ?_
          refine lv_iload_n hx hb d_MD_move_69 rfl (lv_at hl 2 rfl) ?_
          refine lv_iload hx hb d_MD_move_70 (lv_at hl 5 rfl) ?_
          refine lv_iload hx hb d_MD_move_72 (lv_at hl 6 rfl) ?_
          obtain ⟨r160, g_r160, h⟩ := ob_some h
          refine cl_MD_148 (rest := [.int r157, .int s0, .ref (ad 0)]) C (hml.trans hl.1.symm) hW.1 g_r160 ⟨Nat.le_of_ble_eq_true rfl, Nat.le_of_ble_eq_true rfl⟩ (Nat.le_of_ble_eq_true rfl) d_MD_move_74 ⟨Nat.zero_le _, Nat.zero_le _⟩ ?_
          refine lv_if_eq (tgt := 84) hx hb d_MD_move_77 (by decide) (fun c161 => ?_) (fun c161 => ?_)
          · rw [if_pos c161] at h
            refine lv_iconst (v := 0) hx hb d_MD_move_84 (by decide) ?_
            have k85 : ∀ (x1 : Int32) (x2 : Int32) (x3 : Int32) (s0 : Int32) (s1 : Int32) (s2 : Int32) (σ : Sg) (h : C_MD_move_85 x1 x2 x3 s0 s1 s2 σ = some out) (H : Heap) (locs : List Loc) (hW : WR G ad cI cZ s σ H locs) (ls : Array Slot) (hl : lv_has ls 7 [(0, .ref (ad 0)), (1, .int x1), (2, .int x2), (3, .int x3)]), W p l e (headSpec wl_MD_move ({ frames := 5, cells := 0, slots := 0, locals := 122 } : Room)).room s m (([.ref (ad 0), .int a1, .int a2, .int a3, .int a4, .int a5] : List Value).toArray) below meth c H locs 0 0 (MQ below (QRi G ad cI cZ out) (([.ref (ad 0), .int a1, .int a2, .int a3, .int a4, .int a5] : List Value).toArray) s 0 0 (AR ad)) (F0 m 85 ls [.int s0, .int s1, .int s2, .ref (ad 0)]) := by
              intro x1 x2 x3 s0 s1 s2 σ h H locs hW ls hl
              unfold C_MD_move_85 at h
              obtain ⟨r170, g_r170, h⟩ := ob_some h
              refine cl_MD_102 (rest := []) C hD (hml.trans hl.1.symm) hW g_r170 ⟨Nat.le_of_ble_eq_true rfl, Nat.le_of_ble_eq_true rfl⟩ (Nat.le_of_ble_eq_true rfl) d_MD_move_85 ⟨Nat.zero_le _, Nat.zero_le _⟩ (fun H locs hW => ?_)
              refine lv_if_ne (tgt := 93) hx hb d_MD_move_88 (by decide) (fun c171 => ?_) (fun c171 => ?_)
              · rw [if_neg c171] at h
                refine lv_aload_n hx hb d_MD_move_93 rfl (lv_at hl 0 rfl) ?_
                refine lv_aload_n hx hb d_MD_move_94 rfl (lv_at hl 0 rfl) ?_
                refine lv_iload_n hx hb d_MD_move_95 rfl (lv_at hl 1 rfl) ?_
                refine lv_iload_n hx hb d_MD_move_96 rfl (lv_at hl 3 rfl) ?_
                obtain ⟨r172, g_r172, h⟩ := ob_some h
                refine cl_MD_130 (rest := [.ref (ad 0)]) C (hml.trans hl.1.symm) hW.1 g_r172 ⟨Nat.le_of_ble_eq_true rfl, Nat.le_of_ble_eq_true rfl⟩ (Nat.le_of_ble_eq_true rfl) d_MD_move_97 ⟨Nat.zero_le _, Nat.zero_le _⟩ ?_
                refine lv_iload_n hx hb d_MD_move_100 rfl (lv_at hl 2 rfl) ?_
                refine lv_iload_n hx hb d_MD_move_101 rfl (lv_at hl 3 rfl) ?_
                obtain ⟨r173, g_r173, h⟩ := ob_some h
                refine cl_MD_151 (rest := []) C (hml.trans hl.1.symm) hW.1 g_r173 ⟨Nat.le_of_ble_eq_true rfl, Nat.le_of_ble_eq_true rfl⟩ (Nat.le_of_ble_eq_true rfl) d_MD_move_102 ⟨Nat.zero_le _, Nat.zero_le _⟩ ?_
                refine lv_if_eq (tgt := 110) hx hb d_MD_move_105 (by decide) (fun c174 => ?_) (fun c174 => ?_)
                · rw [if_pos c174] at h
                  refine lv_aload_n hx hb d_MD_move_110 rfl (lv_at hl 0 rfl) ?_
                  refine lv_iload_n hx hb d_MD_move_111 rfl (lv_at hl 1 rfl) ?_
                  refine lv_iload_n hx hb d_MD_move_112 rfl (lv_at hl 2 rfl) ?_
                  refine lv_iload_n hx hb d_MD_move_113 rfl (lv_at hl 3 rfl) ?_
                  obtain ⟨r175, g_r175, h⟩ := ob_some h
                  refine cl_MD_154 (rest := []) C hD (hml.trans hl.1.symm) hW g_r175 ⟨Nat.le_of_ble_eq_true rfl, Nat.le_of_ble_eq_true rfl⟩ (Nat.le_of_ble_eq_true rfl) d_MD_move_114 ⟨Nat.zero_le _, Nat.zero_le _⟩ (fun H locs hW => ?_)
                  refine lv_if_ne (tgt := 122) hx hb d_MD_move_117 (by decide) (fun c176 => ?_) (fun c176 => ?_)
                  · rw [if_neg c176] at h
                    refine lv_aload_n hx hb d_MD_move_122 rfl (lv_at hl 0 rfl) ?_
                    refine lv_iload_n hx hb d_MD_move_123 rfl (lv_at hl 1 rfl) ?_
                    refine lv_iload_n hx hb d_MD_move_124 rfl (lv_at hl 3 rfl) ?_
                    refine lv_iconst (v := 0) hx hb d_MD_move_125 (by decide) ?_
                    refine lv_iload_n hx hb d_MD_move_126 rfl (lv_at hl 2 rfl) ?_
                    obtain ⟨r177, g_r177, h⟩ := ob_some h
                    refine cl_MD_157 (rest := []) C hD (hml.trans hl.1.symm) hW g_r177 ⟨Nat.le_of_ble_eq_true rfl, Nat.le_of_ble_eq_true rfl⟩ (Nat.le_of_ble_eq_true rfl) d_MD_move_127 ⟨Nat.zero_le _, Nat.zero_le _⟩ (fun H locs hW => ?_)
                    refine lv_iconst (v := 0) hx hb d_MD_move_130 (by decide) ?_
                    exact W.iret hx hb hr (fun t ht _ => qr_i h ht hW) hW.2.2.2 d_MD_move_131
                  · rw [if_pos c176] at h
                    refine lv_iconst (v := 2) hx hb d_MD_move_120 (by decide) ?_
                    exact W.iret hx hb hr (fun t ht _ => qr_i h ht hW) hW.2.2.2 d_MD_move_121
                · rw [if_neg c174] at h
                  refine lv_iconst (v := 1) hx hb d_MD_move_108 (by decide) ?_
                  exact W.iret hx hb hr (fun t ht _ => qr_i h ht hW) hW.2.2.2 d_MD_move_109
              · rw [if_pos c171] at h
                refine lv_iconst (v := 0) hx hb d_MD_move_91 (by decide) ?_
                exact W.iret hx hb hr (fun t ht _ => qr_i h ht hW) hW.2.2.2 d_MD_move_92
            exact k85 x1 x2 x3 0 r157 s0 σ h _ _ hW _ (lv_sub hl [1, 2, 3, 4] rfl)
          · rw [if_neg c161] at h
            refine lv_iconst (v := 1) hx hb d_MD_move_80 (by decide) ?_
            refine lv_goto (tgt := 85) hx hb d_MD_move_81 (by decide) ?_
            have k85 : ∀ (x1 : Int32) (x2 : Int32) (x3 : Int32) (s0 : Int32) (s1 : Int32) (s2 : Int32) (σ : Sg) (h : C_MD_move_85 x1 x2 x3 s0 s1 s2 σ = some out) (H : Heap) (locs : List Loc) (hW : WR G ad cI cZ s σ H locs) (ls : Array Slot) (hl : lv_has ls 7 [(0, .ref (ad 0)), (1, .int x1), (2, .int x2), (3, .int x3)]), W p l e (headSpec wl_MD_move ({ frames := 5, cells := 0, slots := 0, locals := 122 } : Room)).room s m (([.ref (ad 0), .int a1, .int a2, .int a3, .int a4, .int a5] : List Value).toArray) below meth c H locs 0 0 (MQ below (QRi G ad cI cZ out) (([.ref (ad 0), .int a1, .int a2, .int a3, .int a4, .int a5] : List Value).toArray) s 0 0 (AR ad)) (F0 m 85 ls [.int s0, .int s1, .int s2, .ref (ad 0)]) := by
              intro x1 x2 x3 s0 s1 s2 σ h H locs hW ls hl
              unfold C_MD_move_85 at h
              obtain ⟨r162, g_r162, h⟩ := ob_some h
              refine cl_MD_102 (rest := []) C hD (hml.trans hl.1.symm) hW g_r162 ⟨Nat.le_of_ble_eq_true rfl, Nat.le_of_ble_eq_true rfl⟩ (Nat.le_of_ble_eq_true rfl) d_MD_move_85 ⟨Nat.zero_le _, Nat.zero_le _⟩ (fun H locs hW => ?_)
              refine lv_if_ne (tgt := 93) hx hb d_MD_move_88 (by decide) (fun c163 => ?_) (fun c163 => ?_)
              · rw [if_neg c163] at h
                refine lv_aload_n hx hb d_MD_move_93 rfl (lv_at hl 0 rfl) ?_
                refine lv_aload_n hx hb d_MD_move_94 rfl (lv_at hl 0 rfl) ?_
                refine lv_iload_n hx hb d_MD_move_95 rfl (lv_at hl 1 rfl) ?_
                refine lv_iload_n hx hb d_MD_move_96 rfl (lv_at hl 3 rfl) ?_
                obtain ⟨r164, g_r164, h⟩ := ob_some h
                refine cl_MD_130 (rest := [.ref (ad 0)]) C (hml.trans hl.1.symm) hW.1 g_r164 ⟨Nat.le_of_ble_eq_true rfl, Nat.le_of_ble_eq_true rfl⟩ (Nat.le_of_ble_eq_true rfl) d_MD_move_97 ⟨Nat.zero_le _, Nat.zero_le _⟩ ?_
                refine lv_iload_n hx hb d_MD_move_100 rfl (lv_at hl 2 rfl) ?_
                refine lv_iload_n hx hb d_MD_move_101 rfl (lv_at hl 3 rfl) ?_
                obtain ⟨r165, g_r165, h⟩ := ob_some h
                refine cl_MD_151 (rest := []) C (hml.trans hl.1.symm) hW.1 g_r165 ⟨Nat.le_of_ble_eq_true rfl, Nat.le_of_ble_eq_true rfl⟩ (Nat.le_of_ble_eq_true rfl) d_MD_move_102 ⟨Nat.zero_le _, Nat.zero_le _⟩ ?_
                refine lv_if_eq (tgt := 110) hx hb d_MD_move_105 (by decide) (fun c166 => ?_) (fun c166 => ?_)
                · rw [if_pos c166] at h
                  refine lv_aload_n hx hb d_MD_move_110 rfl (lv_at hl 0 rfl) ?_
                  refine lv_iload_n hx hb d_MD_move_111 rfl (lv_at hl 1 rfl) ?_
                  refine lv_iload_n hx hb d_MD_move_112 rfl (lv_at hl 2 rfl) ?_
                  refine lv_iload_n hx hb d_MD_move_113 rfl (lv_at hl 3 rfl) ?_
                  obtain ⟨r167, g_r167, h⟩ := ob_some h
                  refine cl_MD_154 (rest := []) C hD (hml.trans hl.1.symm) hW g_r167 ⟨Nat.le_of_ble_eq_true rfl, Nat.le_of_ble_eq_true rfl⟩ (Nat.le_of_ble_eq_true rfl) d_MD_move_114 ⟨Nat.zero_le _, Nat.zero_le _⟩ (fun H locs hW => ?_)
                  refine lv_if_ne (tgt := 122) hx hb d_MD_move_117 (by decide) (fun c168 => ?_) (fun c168 => ?_)
                  · rw [if_neg c168] at h
                    refine lv_aload_n hx hb d_MD_move_122 rfl (lv_at hl 0 rfl) ?_
                    refine lv_iload_n hx hb d_MD_move_123 rfl (lv_at hl 1 rfl) ?_
                    refine lv_iload_n hx hb d_MD_move_124 rfl (lv_at hl 3 rfl) ?_
                    refine lv_iconst (v := 0) hx hb d_MD_move_125 (by decide) ?_
                    refine lv_iload_n hx hb d_MD_move_126 rfl (lv_at hl 2 rfl) ?_
                    obtain ⟨r169, g_r169, h⟩ := ob_some h
                    refine cl_MD_157 (rest := []) C hD (hml.trans hl.1.symm) hW g_r169 ⟨Nat.le_of_ble_eq_true rfl, Nat.le_of_ble_eq_true rfl⟩ (Nat.le_of_ble_eq_true rfl) d_MD_move_127 ⟨Nat.zero_le _, Nat.zero_le _⟩ (fun H locs hW => ?_)
                    refine lv_iconst (v := 0) hx hb d_MD_move_130 (by decide) ?_
                    exact W.iret hx hb hr (fun t ht _ => qr_i h ht hW) hW.2.2.2 d_MD_move_131
                  · rw [if_pos c168] at h
                    refine lv_iconst (v := 2) hx hb d_MD_move_120 (by decide) ?_
                    exact W.iret hx hb hr (fun t ht _ => qr_i h ht hW) hW.2.2.2 d_MD_move_121
                · rw [if_neg c166] at h
                  refine lv_iconst (v := 1) hx hb d_MD_move_108 (by decide) ?_
                  exact W.iret hx hb hr (fun t ht _ => qr_i h ht hW) hW.2.2.2 d_MD_move_109
              · rw [if_pos c163] at h
                refine lv_iconst (v := 0) hx hb d_MD_move_91 (by decide) ?_
                exact W.iret hx hb hr (fun t ht _ => qr_i h ht hW) hW.2.2.2 d_MD_move_92
            exact k85 x1 x2 x3 1 r157 s0 σ h _ _ hW _ (lv_sub hl [1, 2, 3, 4] rfl)
    exact k37 a1 a2 a3 a4 a5 0 σ h _ _ hW _ (lv_sub hl [0, 1, 2, 3, 4, 5] rfl)
  · rw [if_neg c2] at h
    refine lv_aload_n hx hb d_MD_move_8 rfl (lv_at hl 0 rfl) ?_
    refine lv_iload_n hx hb d_MD_move_9 rfl (lv_at hl 2 rfl) ?_
    obtain ⟨r3, g_r3, h⟩ := ob_some h
    refine cl_MD_93 (rest := []) C (hml.trans hl.1.symm) hW.1 g_r3 ⟨Nat.le_of_ble_eq_true rfl, Nat.le_of_ble_eq_true rfl⟩ (Nat.le_of_ble_eq_true rfl) d_MD_move_10 ⟨Nat.zero_le _, Nat.zero_le _⟩ ?_
    refine lv_if_eq (tgt := 36) hx hb d_MD_move_13 (by decide) (fun c4 => ?_) (fun c4 => ?_)
    · rw [if_pos c4] at h
      refine lv_iconst (v := 0) hx hb d_MD_move_36 (by decide) ?_
      have k37 : ∀ (x1 : Int32) (x2 : Int32) (x3 : Int32) (x4 : Int32) (x5 : Int32) (s0 : Int32) (σ : Sg) (h : C_MD_move_37 x1 x2 x3 x4 x5 s0 σ = some out) (H : Heap) (locs : List Loc) (hW : WR G ad cI cZ s σ H locs) (ls : Array Slot) (hl : lv_has ls 7 [(0, .ref (ad 0)), (1, .int x1), (2, .int x2), (3, .int x3), (4, .int x4), (5, .int x5)]), W p l e (headSpec wl_MD_move ({ frames := 5, cells := 0, slots := 0, locals := 122 } : Room)).room s m (([.ref (ad 0), .int a1, .int a2, .int a3, .int a4, .int a5] : List Value).toArray) below meth c H locs 0 0 (MQ below (QRi G ad cI cZ out) (([.ref (ad 0), .int a1, .int a2, .int a3, .int a4, .int a5] : List Value).toArray) s 0 0 (AR ad)) (F0 m 37 ls [.int s0]) := by
        intro x1 x2 x3 x4 x5 s0 σ h H locs hW ls hl
        unfold C_MD_move_37 at h
        refine lv_istore (lv' := [(6, .int s0), (0, .ref (ad 0)), (1, .int x1), (2, .int x2), (3, .int x3), (4, .int x4), (5, .int x5)]) hx hb d_MD_move_37 hl (by decide) rfl (fun ls hl => ?_)
        refine lv_aload_n hx hb d_MD_move_39 rfl (lv_at hl 1 rfl) ?_
        refine lv_iload hx hb d_MD_move_40 (lv_at hl 0 rfl) ?_
        refine lv_iload_n hx hb d_MD_move_42 rfl (lv_at hl 4 rfl) ?_
        refine lv_aload_n hx hb d_MD_move_43 rfl (lv_at hl 1 rfl) ?_
        refine gf_MD_145 C hW.1 d_MD_move_44 ?_
        refine lv_ldc (v := 1000000) hx hb hown (hts _ w_724) d_MD_move_47 ?_
        obtain ⟨r120, g_r120, h⟩ := ob_some h
        refine cl_MD_98 (rest := [.int s0, .ref (ad 0)]) C (hml.trans hl.1.symm) hW.1 g_r120 ⟨Nat.le_of_ble_eq_true rfl, Nat.le_of_ble_eq_true rfl⟩ (Nat.le_of_ble_eq_true rfl) d_MD_move_49 ⟨Nat.zero_le _, Nat.zero_le _⟩ ?_
        refine lv_iload hx hb d_MD_move_52 (lv_at hl 0 rfl) ?_
        refine lv_if_eq (tgt := 84) hx hb d_MD_move_54 (by decide) (fun c121 => ?_) (fun c121 => ?_)
        · rw [if_pos c121] at h
          refine lv_iconst (v := 0) hx hb d_MD_move_84 (by decide) ?_
          have k85 : ∀ (x1 : Int32) (x2 : Int32) (x3 : Int32) (s0 : Int32) (s1 : Int32) (s2 : Int32) (σ : Sg) (h : C_MD_move_85 x1 x2 x3 s0 s1 s2 σ = some out) (H : Heap) (locs : List Loc) (hW : WR G ad cI cZ s σ H locs) (ls : Array Slot) (hl : lv_has ls 7 [(0, .ref (ad 0)), (1, .int x1), (2, .int x2), (3, .int x3)]), W p l e (headSpec wl_MD_move ({ frames := 5, cells := 0, slots := 0, locals := 122 } : Room)).room s m (([.ref (ad 0), .int a1, .int a2, .int a3, .int a4, .int a5] : List Value).toArray) below meth c H locs 0 0 (MQ below (QRi G ad cI cZ out) (([.ref (ad 0), .int a1, .int a2, .int a3, .int a4, .int a5] : List Value).toArray) s 0 0 (AR ad)) (F0 m 85 ls [.int s0, .int s1, .int s2, .ref (ad 0)]) := by
            intro x1 x2 x3 s0 s1 s2 σ h H locs hW ls hl
            unfold C_MD_move_85 at h
            obtain ⟨r149, g_r149, h⟩ := ob_some h
            refine cl_MD_102 (rest := []) C hD (hml.trans hl.1.symm) hW g_r149 ⟨Nat.le_of_ble_eq_true rfl, Nat.le_of_ble_eq_true rfl⟩ (Nat.le_of_ble_eq_true rfl) d_MD_move_85 ⟨Nat.zero_le _, Nat.zero_le _⟩ (fun H locs hW => ?_)
            refine lv_if_ne (tgt := 93) hx hb d_MD_move_88 (by decide) (fun c150 => ?_) (fun c150 => ?_)
            · rw [if_neg c150] at h
              refine lv_aload_n hx hb d_MD_move_93 rfl (lv_at hl 0 rfl) ?_
              refine lv_aload_n hx hb d_MD_move_94 rfl (lv_at hl 0 rfl) ?_
              refine lv_iload_n hx hb d_MD_move_95 rfl (lv_at hl 1 rfl) ?_
              refine lv_iload_n hx hb d_MD_move_96 rfl (lv_at hl 3 rfl) ?_
              obtain ⟨r151, g_r151, h⟩ := ob_some h
              refine cl_MD_130 (rest := [.ref (ad 0)]) C (hml.trans hl.1.symm) hW.1 g_r151 ⟨Nat.le_of_ble_eq_true rfl, Nat.le_of_ble_eq_true rfl⟩ (Nat.le_of_ble_eq_true rfl) d_MD_move_97 ⟨Nat.zero_le _, Nat.zero_le _⟩ ?_
              refine lv_iload_n hx hb d_MD_move_100 rfl (lv_at hl 2 rfl) ?_
              refine lv_iload_n hx hb d_MD_move_101 rfl (lv_at hl 3 rfl) ?_
              obtain ⟨r152, g_r152, h⟩ := ob_some h
              refine cl_MD_151 (rest := []) C (hml.trans hl.1.symm) hW.1 g_r152 ⟨Nat.le_of_ble_eq_true rfl, Nat.le_of_ble_eq_true rfl⟩ (Nat.le_of_ble_eq_true rfl) d_MD_move_102 ⟨Nat.zero_le _, Nat.zero_le _⟩ ?_
              refine lv_if_eq (tgt := 110) hx hb d_MD_move_105 (by decide) (fun c153 => ?_) (fun c153 => ?_)
              · rw [if_pos c153] at h
                refine lv_aload_n hx hb d_MD_move_110 rfl (lv_at hl 0 rfl) ?_
                refine lv_iload_n hx hb d_MD_move_111 rfl (lv_at hl 1 rfl) ?_
                refine lv_iload_n hx hb d_MD_move_112 rfl (lv_at hl 2 rfl) ?_
                refine lv_iload_n hx hb d_MD_move_113 rfl (lv_at hl 3 rfl) ?_
                obtain ⟨r154, g_r154, h⟩ := ob_some h
                refine cl_MD_154 (rest := []) C hD (hml.trans hl.1.symm) hW g_r154 ⟨Nat.le_of_ble_eq_true rfl, Nat.le_of_ble_eq_true rfl⟩ (Nat.le_of_ble_eq_true rfl) d_MD_move_114 ⟨Nat.zero_le _, Nat.zero_le _⟩ (fun H locs hW => ?_)
                refine lv_if_ne (tgt := 122) hx hb d_MD_move_117 (by decide) (fun c155 => ?_) (fun c155 => ?_)
                · rw [if_neg c155] at h
                  refine lv_aload_n hx hb d_MD_move_122 rfl (lv_at hl 0 rfl) ?_
                  refine lv_iload_n hx hb d_MD_move_123 rfl (lv_at hl 1 rfl) ?_
                  refine lv_iload_n hx hb d_MD_move_124 rfl (lv_at hl 3 rfl) ?_
                  refine lv_iconst (v := 0) hx hb d_MD_move_125 (by decide) ?_
                  refine lv_iload_n hx hb d_MD_move_126 rfl (lv_at hl 2 rfl) ?_
                  obtain ⟨r156, g_r156, h⟩ := ob_some h
                  refine cl_MD_157 (rest := []) C hD (hml.trans hl.1.symm) hW g_r156 ⟨Nat.le_of_ble_eq_true rfl, Nat.le_of_ble_eq_true rfl⟩ (Nat.le_of_ble_eq_true rfl) d_MD_move_127 ⟨Nat.zero_le _, Nat.zero_le _⟩ (fun H locs hW => ?_)
                  refine lv_iconst (v := 0) hx hb d_MD_move_130 (by decide) ?_
                  exact W.iret hx hb hr (fun t ht _ => qr_i h ht hW) hW.2.2.2 d_MD_move_131
                · rw [if_pos c155] at h
                  refine lv_iconst (v := 2) hx hb d_MD_move_120 (by decide) ?_
                  exact W.iret hx hb hr (fun t ht _ => qr_i h ht hW) hW.2.2.2 d_MD_move_121
              · rw [if_neg c153] at h
                refine lv_iconst (v := 1) hx hb d_MD_move_108 (by decide) ?_
                exact W.iret hx hb hr (fun t ht _ => qr_i h ht hW) hW.2.2.2 d_MD_move_109
            · rw [if_pos c150] at h
              refine lv_iconst (v := 0) hx hb d_MD_move_91 (by decide) ?_
              exact W.iret hx hb hr (fun t ht _ => qr_i h ht hW) hW.2.2.2 d_MD_move_92
          exact k85 x1 x2 x3 0 r120 s0 σ h _ _ hW _ (lv_sub hl [1, 2, 3, 4] rfl)
        · rw [if_neg c121] at h
          refine lv_aload_n hx hb d_MD_move_57 rfl (lv_at hl 1 rfl) ?_
          refine gf_MD_32 C hW.1 d_MD_move_58 ?_
          refine lv_iload_n hx hb d_MD_move_61 rfl (lv_at hl 2 rfl) ?_
          obtain ⟨hin, h⟩ := gd_some h
          refine alR_8 C hW.1 hin d_MD_move_62 ?_
          refine lv_bipush (v := 40) hx hb d_MD_move_63 (by decide) ?_
          refine lv_icmp_ge (tgt := 84) hx hb d_MD_move_65 (by decide) (fun c122 => ?_) (fun c122 => ?_)
          · rw [if_pos c122] at h
            refine lv_iconst (v := 0) hx hb d_MD_move_84 (by decide) ?_
            have k85 : ∀ (x1 : Int32) (x2 : Int32) (x3 : Int32) (s0 : Int32) (s1 : Int32) (s2 : Int32) (σ : Sg) (h : C_MD_move_85 x1 x2 x3 s0 s1 s2 σ = some out) (H : Heap) (locs : List Loc) (hW : WR G ad cI cZ s σ H locs) (ls : Array Slot) (hl : lv_has ls 7 [(0, .ref (ad 0)), (1, .int x1), (2, .int x2), (3, .int x3)]), W p l e (headSpec wl_MD_move ({ frames := 5, cells := 0, slots := 0, locals := 122 } : Room)).room s m (([.ref (ad 0), .int a1, .int a2, .int a3, .int a4, .int a5] : List Value).toArray) below meth c H locs 0 0 (MQ below (QRi G ad cI cZ out) (([.ref (ad 0), .int a1, .int a2, .int a3, .int a4, .int a5] : List Value).toArray) s 0 0 (AR ad)) (F0 m 85 ls [.int s0, .int s1, .int s2, .ref (ad 0)]) := by
              intro x1 x2 x3 s0 s1 s2 σ h H locs hW ls hl
              unfold C_MD_move_85 at h
              obtain ⟨r141, g_r141, h⟩ := ob_some h
              refine cl_MD_102 (rest := []) C hD (hml.trans hl.1.symm) hW g_r141 ⟨Nat.le_of_ble_eq_true rfl, Nat.le_of_ble_eq_true rfl⟩ (Nat.le_of_ble_eq_true rfl) d_MD_move_85 ⟨Nat.zero_le _, Nat.zero_le _⟩ (fun H locs hW => ?_)
              refine lv_if_ne (tgt := 93) hx hb d_MD_move_88 (by decide) (fun c142 => ?_) (fun c142 => ?_)
              · rw [if_neg c142] at h
                refine lv_aload_n hx hb d_MD_move_93 rfl (lv_at hl 0 rfl) ?_
                refine lv_aload_n hx hb d_MD_move_94 rfl (lv_at hl 0 rfl) ?_
                refine lv_iload_n hx hb d_MD_move_95 rfl (lv_at hl 1 rfl) ?_
                refine lv_iload_n hx hb d_MD_move_96 rfl (lv_at hl 3 rfl) ?_
                obtain ⟨r143, g_r143, h⟩ := ob_some h
                refine cl_MD_130 (rest := [.ref (ad 0)]) C (hml.trans hl.1.symm) hW.1 g_r143 ⟨Nat.le_of_ble_eq_true rfl, Nat.le_of_ble_eq_true rfl⟩ (Nat.le_of_ble_eq_true rfl) d_MD_move_97 ⟨Nat.zero_le _, Nat.zero_le _⟩ ?_
                refine lv_iload_n hx hb d_MD_move_100 rfl (lv_at hl 2 rfl) ?_
                refine lv_iload_n hx hb d_MD_move_101 rfl (lv_at hl 3 rfl) ?_
                obtain ⟨r144, g_r144, h⟩ := ob_some h
                refine cl_MD_151 (rest := []) C (hml.trans hl.1.symm) hW.1 g_r144 ⟨Nat.le_of_ble_eq_true rfl, Nat.le_of_ble_eq_true rfl⟩ (Nat.le_of_ble_eq_true rfl) d_MD_move_102 ⟨Nat.zero_le _, Nat.zero_le _⟩ ?_
                refine lv_if_eq (tgt := 110) hx hb d_MD_move_105 (by decide) (fun c145 => ?_) (fun c145 => ?_)
                · rw [if_pos c145] at h
                  refine lv_aload_n hx hb d_MD_move_110 rfl (lv_at hl 0 rfl) ?_
                  refine lv_iload_n hx hb d_MD_move_111 rfl (lv_at hl 1 rfl) ?_
                  refine lv_iload_n hx hb d_MD_move_112 rfl (lv_at hl 2 rfl) ?_
                  refine lv_iload_n hx hb d_MD_move_113 rfl (lv_at hl 3 rfl) ?_
                  obtain ⟨r146, g_r146, h⟩ := ob_some h
                  refine cl_MD_154 (rest := []) C hD (hml.trans hl.1.symm) hW g_r146 ⟨Nat.le_of_ble_eq_true rfl, Nat.le_of_ble_eq_true rfl⟩ (Nat.le_of_ble_eq_true rfl) d_MD_move_114 ⟨Nat.zero_le _, Nat.zero_le _⟩ (fun H locs hW => ?_)
                  refine lv_if_ne (tgt := 122) hx hb d_MD_move_117 (by decide) (fun c147 => ?_) (fun c147 => ?_)
                  · rw [if_neg c147] at h
                    refine lv_aload_n hx hb d_MD_move_122 rfl (lv_at hl 0 rfl) ?_
                    refine lv_iload_n hx hb d_MD_move_123 rfl (lv_at hl 1 rfl) ?_
                    refine lv_iload_n hx hb d_MD_move_124 rfl (lv_at hl 3 rfl) ?_
                    refine lv_iconst (v := 0) hx hb d_MD_move_125 (by decide) ?_
                    refine lv_iload_n hx hb d_MD_move_126 rfl (lv_at hl 2 rfl) ?_
                    obtain ⟨r148, g_r148, h⟩ := ob_some h
                    refine cl_MD_157 (rest := []) C hD (hml.trans hl.1.symm) hW g_r148 ⟨Nat.le_of_ble_eq_true rfl, Nat.le_of_ble_eq_true rfl⟩ (Nat.le_of_ble_eq_true rfl) d_MD_move_127 ⟨Nat.zero_le _, Nat.zero_le _⟩ (fun H locs hW => ?_)
                    refine lv_iconst (v := 0) hx hb d_MD_move_130 (by decide) ?_
                    exact W.iret hx hb hr (fun t ht _ => qr_i h ht hW) hW.2.2.2 d_MD_move_131
                  · rw [if_pos c147] at h
                    refine lv_iconst (v := 2) hx hb d_MD_move_120 (by decide) ?_
                    exact W.iret hx hb hr (fun t ht _ => qr_i h ht hW) hW.2.2.2 d_MD_move_121
                · rw [if_neg c145] at h
                  refine lv_iconst (v := 1) hx hb d_MD_move_108 (by decide) ?_
                  exact W.iret hx hb hr (fun t ht _ => qr_i h ht hW) hW.2.2.2 d_MD_move_109
              · rw [if_pos c142] at h
                refine lv_iconst (v := 0) hx hb d_MD_move_91 (by decide) ?_
                exact W.iret hx hb hr (fun t ht _ => qr_i h ht hW) hW.2.2.2 d_MD_move_92
            exact k85 x1 x2 x3 0 r120 s0 σ h _ _ hW _ (lv_sub hl [1, 2, 3, 4] rfl)
          · rw [if_neg c122] at h
            refine lv_aload_n hx hb d_MD_move_68 rfl (lv_at hl 1 rfl) ?_
            refine lv_iload_n hx hb d_MD_move_69 rfl (lv_at hl 2 rfl) ?_
            refine lv_iload hx hb d_MD_move_70 (lv_at hl 5 rfl) ?_
            refine lv_iload hx hb d_MD_move_72 (lv_at hl 6 rfl) ?_
            obtain ⟨r123, g_r123, h⟩ := ob_some h
            refine cl_MD_148 (rest := [.int r120, .int s0, .ref (ad 0)]) C (hml.trans hl.1.symm) hW.1 g_r123 ⟨Nat.le_of_ble_eq_true rfl, Nat.le_of_ble_eq_true rfl⟩ (Nat.le_of_ble_eq_true rfl) d_MD_move_74 ⟨Nat.zero_le _, Nat.zero_le _⟩ ?_
            refine lv_if_eq (tgt := 84) hx hb d_MD_move_77 (by decide) (fun c124 => ?_) (fun c124 => ?_)
            · rw [if_pos c124] at h
              refine lv_iconst (v := 0) hx hb d_MD_move_84 (by decide) ?_
              have k85 : ∀ (x1 : Int32) (x2 : Int32) (x3 : Int32) (s0 : Int32) (s1 : Int32) (s2 : Int32) (σ : Sg) (h : C_MD_move_85 x1 x2 x3 s0 s1 s2 σ = some out) (H : Heap) (locs : List Loc) (hW : WR G ad cI cZ s σ H locs) (ls : Array Slot) (hl : lv_has ls 7 [(0, .ref (ad 0)), (1, .int x1), (2, .int x2), (3, .int x3)]), W p l e (headSpec wl_MD_move ({ frames := 5, cells := 0, slots := 0, locals := 122 } : Room)).room s m (([.ref (ad 0), .int a1, .int a2, .int a3, .int a4, .int a5] : List Value).toArray) below meth c H locs 0 0 (MQ below (QRi G ad cI cZ out) (([.ref (ad 0), .int a1, .int a2, .int a3, .int a4, .int a5] : List Value).toArray) s 0 0 (AR ad)) (F0 m 85 ls [.int s0, .int s1, .int s2, .ref (ad 0)]) := by
                intro x1 x2 x3 s0 s1 s2 σ h H locs hW ls hl
                unfold C_MD_move_85 at h
                obtain ⟨r133, g_r133, h⟩ := ob_some h
                refine cl_MD_102 (rest := []) C hD (hml.trans hl.1.symm) hW g_r133 ⟨Nat.le_of_ble_eq_true rfl, Nat.le_of_ble_eq_true rfl⟩ (Nat.le_of_ble_eq_true rfl) d_MD_move_85 ⟨Nat.zero_le _, Nat.zero_le _⟩ (fun H locs hW => ?_)
                refine lv_if_ne (tgt := 93) hx hb d_MD_move_88 (by decide) (fun c134 => ?_) (fun c134 => ?_)
                · rw [if_neg c134] at h
                  refine lv_aload_n hx hb d_MD_move_93 rfl (lv_at hl 0 rfl) ?_
                  refine lv_aload_n hx hb d_MD_move_94 rfl (lv_at hl 0 rfl) ?_
                  refine lv_iload_n hx hb d_MD_move_95 rfl (lv_at hl 1 rfl) ?_
                  refine lv_iload_n hx hb d_MD_move_96 rfl (lv_at hl 3 rfl) ?_
                  obtain ⟨r135, g_r135, h⟩ := ob_some h
                  refine cl_MD_130 (rest := [.ref (ad 0)]) C (hml.trans hl.1.symm) hW.1 g_r135 ⟨Nat.le_of_ble_eq_true rfl, Nat.le_of_ble_eq_true rfl⟩ (Nat.le_of_ble_eq_true rfl) d_MD_move_97 ⟨Nat.zero_le _, Nat.zero_le _⟩ ?_
                  refine lv_iload_n hx hb d_MD_move_100 rfl (lv_at hl 2 rfl) ?_
                  refine lv_iload_n hx hb d_MD_move_101 rfl (lv_at hl 3 rfl) ?_
                  obtain ⟨r136, g_r136, h⟩ := ob_some h
                  refine cl_MD_151 (rest := []) C (hml.trans hl.1.symm) hW.1 g_r136 ⟨Nat.le_of_ble_eq_true rfl, Nat.le_of_ble_eq_true rfl⟩ (Nat.le_of_ble_eq_true rfl) d_MD_move_102 ⟨Nat.zero_le _, Nat.zero_le _⟩ ?_
                  refine lv_if_eq (tgt := 110) hx hb d_MD_move_105 (by decide) (fun c137 => ?_) (fun c137 => ?_)
                  · rw [if_pos c137] at h
                    refine lv_aload_n hx hb d_MD_move_110 rfl (lv_at hl 0 rfl) ?_
                    refine lv_iload_n hx hb d_MD_move_111 rfl (lv_at hl 1 rfl) ?_
                    refine lv_iload_n hx hb d_MD_move_112 rfl (lv_at hl 2 rfl) ?_
                    refine lv_iload_n hx hb d_MD_move_113 rfl (lv_at hl 3 rfl) ?_
                    obtain ⟨r138, g_r138, h⟩ := ob_some h
                    refine cl_MD_154 (rest := []) C hD (hml.trans hl.1.symm) hW g_r138 ⟨Nat.le_of_ble_eq_true rfl, Nat.le_of_ble_eq_true rfl⟩ (Nat.le_of_ble_eq_true rfl) d_MD_move_114 ⟨Nat.zero_le _, Nat.zero_le _⟩ (fun H locs hW => ?_)
                    refine lv_if_ne (tgt := 122) hx hb d_MD_move_117 (by decide) (fun c139 => ?_) (fun c139 => ?_)
                    · rw [if_neg c139] at h
                      refine lv_aload_n hx hb d_MD_move_122 rfl (lv_at hl 0 rfl) ?_
                      refine lv_iload_n hx hb d_MD_move_123 rfl (lv_at hl 1 rfl) ?_
                      refine lv_iload_n hx hb d_MD_move_124 rfl (lv_at hl 3 rfl) ?_
                      refine lv_iconst (v := 0) hx hb d_MD_move_125 (by decide) ?_
                      refine lv_iload_n hx hb d_MD_move_126 rfl (lv_at hl 2 rfl) ?_
                      obtain ⟨r140, g_r140, h⟩ := ob_some h
                      refine cl_MD_157 (rest := []) C hD (hml.trans hl.1.symm) hW g_r140 ⟨Nat.le_of_ble_eq_true rfl, Nat.le_of_ble_eq_true rfl⟩ (Nat.le_of_ble_eq_true rfl) d_MD_move_127 ⟨Nat.zero_le _, Nat.zero_le _⟩ (fun H locs hW => ?_)
                      refine lv_iconst (v := 0) hx hb d_MD_move_130 (by decide) ?_
                      exact W.iret hx hb hr (fun t ht _ => qr_i h ht hW) hW.2.2.2 d_MD_move_131
                    · rw [if_pos c139] at h
                      refine lv_iconst (v := 2) hx hb d_MD_move_120 (by decide) ?_
                      exact W.iret hx hb hr (fun t ht _ => qr_i h ht hW) hW.2.2.2 d_MD_move_121
                  · rw [if_neg c137] at h
                    refine lv_iconst (v := 1) hx hb d_MD_move_108 (by decide) ?_
                    exact W.iret hx hb hr (fun t ht _ => qr_i h ht hW) hW.2.2.2 d_MD_move_109
                · rw [if_pos c134] at h
                  refine lv_iconst (v := 0) hx hb d_MD_move_91 (by decide) ?_
                  exact W.iret hx hb hr (fun t ht _ => qr_i h ht hW) hW.2.2.2 d_MD_move_92
              exact k85 x1 x2 x3 0 r120 s0 σ h _ _ hW _ (lv_sub hl [1, 2, 3, 4] rfl)
            · rw [if_neg c124] at h
              refine lv_iconst (v := 1) hx hb d_MD_move_80 (by decide) ?_
              refine lv_goto (tgt := 85) hx hb d_MD_move_81 (by decide) ?_
              have k85 : ∀ (x1 : Int32) (x2 : Int32) (x3 : Int32) (s0 : Int32) (s1 : Int32) (s2 : Int32) (σ : Sg) (h : C_MD_move_85 x1 x2 x3 s0 s1 s2 σ = some out) (H : Heap) (locs : List Loc) (hW : WR G ad cI cZ s σ H locs) (ls : Array Slot) (hl : lv_has ls 7 [(0, .ref (ad 0)), (1, .int x1), (2, .int x2), (3, .int x3)]), W p l e (headSpec wl_MD_move ({ frames := 5, cells := 0, slots := 0, locals := 122 } : Room)).room s m (([.ref (ad 0), .int a1, .int a2, .int a3, .int a4, .int a5] : List Value).toArray) below meth c H locs 0 0 (MQ below (QRi G ad cI cZ out) (([.ref (ad 0), .int a1, .int a2, .int a3, .int a4, .int a5] : List Value).toArray) s 0 0 (AR ad)) (F0 m 85 ls [.int s0, .int s1, .int s2, .ref (ad 0)]) := by
                intro x1 x2 x3 s0 s1 s2 σ h H locs hW ls hl
                unfold C_MD_move_85 at h
                obtain ⟨r125, g_r125, h⟩ := ob_some h
                refine cl_MD_102 (rest := []) C hD (hml.trans hl.1.symm) hW g_r125 ⟨Nat.le_of_ble_eq_true rfl, Nat.le_of_ble_eq_true rfl⟩ (Nat.le_of_ble_eq_true rfl) d_MD_move_85 ⟨Nat.zero_le _, Nat.zero_le _⟩ (fun H locs hW => ?_)
                refine lv_if_ne (tgt := 93) hx hb d_MD_move_88 (by decide) (fun c126 => ?_) (fun c126 => ?_)
                · rw [if_neg c126] at h
                  refine lv_aload_n hx hb d_MD_move_93 rfl (lv_at hl 0 rfl) ?_
                  refine lv_aload_n hx hb d_MD_move_94 rfl (lv_at hl 0 rfl) ?_
                  refine lv_iload_n hx hb d_MD_move_95 rfl (lv_at hl 1 rfl) ?_
                  refine lv_iload_n hx hb d_MD_move_96 rfl (lv_at hl 3 rfl) ?_
                  obtain ⟨r127, g_r127, h⟩ := ob_some h
                  refine cl_MD_130 (rest := [.ref (ad 0)]) C (hml.trans hl.1.symm) hW.1 g_r127 ⟨Nat.le_of_ble_eq_true rfl, Nat.le_of_ble_eq_true rfl⟩ (Nat.le_of_ble_eq_true rfl) d_MD_move_97 ⟨Nat.zero_le _, Nat.zero_le _⟩ ?_
                  refine lv_iload_n hx hb d_MD_move_100 rfl (lv_at hl 2 rfl) ?_
                  refine lv_iload_n hx hb d_MD_move_101 rfl (lv_at hl 3 rfl) ?_
                  obtain ⟨r128, g_r128, h⟩ := ob_some h
                  refine cl_MD_151 (rest := []) C (hml.trans hl.1.symm) hW.1 g_r128 ⟨Nat.le_of_ble_eq_true rfl, Nat.le_of_ble_eq_true rfl⟩ (Nat.le_of_ble_eq_true rfl) d_MD_move_102 ⟨Nat.zero_le _, Nat.zero_le _⟩ ?_
                  refine lv_if_eq (tgt := 110) hx hb d_MD_move_105 (by decide) (fun c129 => ?_) (fun c129 => ?_)
                  · rw [if_pos c129] at h
                    refine lv_aload_n hx hb d_MD_move_110 rfl (lv_at hl 0 rfl) ?_
                    refine lv_iload_n hx hb d_MD_move_111 rfl (lv_at hl 1 rfl) ?_
                    refine lv_iload_n hx hb d_MD_move_112 rfl (lv_at hl 2 rfl) ?_
                    refine lv_iload_n hx hb d_MD_move_113 rfl (lv_at hl 3 rfl) ?_
                    obtain ⟨r130, g_r130, h⟩ := ob_some h
                    refine cl_MD_154 (rest := []) C hD (hml.trans hl.1.symm) hW g_r130 ⟨Nat.le_of_ble_eq_true rfl, Nat.le_of_ble_eq_true rfl⟩ (Nat.le_of_ble_eq_true rfl) d_MD_move_114 ⟨Nat.zero_le _, Nat.zero_le _⟩ (fun H locs hW => ?_)
                    refine lv_if_ne (tgt := 122) hx hb d_MD_move_117 (by decide) (fun c131 => ?_) (fun c131 => ?_)
                    · rw [if_neg c131] at h
                      refine lv_aload_n hx hb d_MD_move_122 rfl (lv_at hl 0 rfl) ?_
                      refine lv_iload_n hx hb d_MD_move_123 rfl (lv_at hl 1 rfl) ?_
                      refine lv_iload_n hx hb d_MD_move_124 rfl (lv_at hl 3 rfl) ?_
                      refine lv_iconst (v := 0) hx hb d_MD_move_125 (by decide) ?_
                      refine lv_iload_n hx hb d_MD_move_126 rfl (lv_at hl 2 rfl) ?_
                      obtain ⟨r132, g_r132, h⟩ := ob_some h
                      refine cl_MD_157 (rest := []) C hD (hml.trans hl.1.symm) hW g_r132 ⟨Nat.le_of_ble_eq_true rfl, Nat.le_of_ble_eq_true rfl⟩ (Nat.le_of_ble_eq_true rfl) d_MD_move_127 ⟨Nat.zero_le _, Nat.zero_le _⟩ (fun H locs hW => ?_)
                      refine lv_iconst (v := 0) hx hb d_MD_move_130 (by decide) ?_
                      exact W.iret hx hb hr (fun t ht _ => qr_i h ht hW) hW.2.2.2 d_MD_move_131
                    · rw [if_pos c131] at h
                      refine lv_iconst (v := 2) hx hb d_MD_move_120 (by decide) ?_
                      exact W.iret hx hb hr (fun t ht _ => qr_i h ht hW) hW.2.2.2 d_MD_move_121
                  · rw [if_neg c129] at h
                    refine lv_iconst (v := 1) hx hb d_MD_move_108 (by decide) ?_
                    exact W.iret hx hb hr (fun t ht _ => qr_i h ht hW) hW.2.2.2 d_MD_move_109
                · rw [if_pos c126] at h
                  refine lv_iconst (v := 0) hx hb d_MD_move_91 (by decide) ?_
                  exact W.iret hx hb hr (fun t ht _ => qr_i h ht hW) hW.2.2.2 d_MD_move_92
              exact k85 x1 x2 x3 1 r120 s0 σ h _ _ hW _ (lv_sub hl [1, 2, 3, 4] rfl)
      exact k37 a1 a2 a3 a4 a5 0 σ h _ _ hW _ (lv_sub hl [0, 1, 2, 3, 4, 5] rfl)
    · rw [if_neg c4] at h
      refine lv_iload hx hb d_MD_move_16 (lv_at hl 4 rfl) ?_
      obtain ⟨r5, g_r5, h⟩ := ob_some h
      refine cl_MD_113 (rest := []) C (hml.trans hl.1.symm) hW.1 g_r5 ⟨Nat.le_of_ble_eq_true rfl, Nat.le_of_ble_eq_true rfl⟩ (Nat.le_of_ble_eq_true rfl) d_MD_move_18 ⟨Nat.zero_le _, Nat.zero_le _⟩ ?_
      refine lv_if_eq (tgt := 36) hx hb d_MD_move_21 (by decide) (fun c6 => ?_) (fun c6 => ?_)
      · rw [if_pos c6] at h
        refine lv_iconst (v := 0) hx hb d_MD_move_36 (by decide) ?_
        have k37 : ∀ (x1 : Int32) (x2 : Int32) (x3 : Int32) (x4 : Int32) (x5 : Int32) (s0 : Int32) (σ : Sg) (h : C_MD_move_37 x1 x2 x3 x4 x5 s0 σ = some out) (H : Heap) (locs : List Loc) (hW : WR G ad cI cZ s σ H locs) (ls : Array Slot) (hl : lv_has ls 7 [(0, .ref (ad 0)), (1, .int x1), (2, .int x2), (3, .int x3), (4, .int x4), (5, .int x5)]), W p l e (headSpec wl_MD_move ({ frames := 5, cells := 0, slots := 0, locals := 122 } : Room)).room s m (([.ref (ad 0), .int a1, .int a2, .int a3, .int a4, .int a5] : List Value).toArray) below meth c H locs 0 0 (MQ below (QRi G ad cI cZ out) (([.ref (ad 0), .int a1, .int a2, .int a3, .int a4, .int a5] : List Value).toArray) s 0 0 (AR ad)) (F0 m 37 ls [.int s0]) := by
          intro x1 x2 x3 x4 x5 s0 σ h H locs hW ls hl
          unfold C_MD_move_37 at h
          refine lv_istore (lv' := [(6, .int s0), (0, .ref (ad 0)), (1, .int x1), (2, .int x2), (3, .int x3), (4, .int x4), (5, .int x5)]) hx hb d_MD_move_37 hl (by decide) rfl (fun ls hl => ?_)
          refine lv_aload_n hx hb d_MD_move_39 rfl (lv_at hl 1 rfl) ?_
          refine lv_iload hx hb d_MD_move_40 (lv_at hl 0 rfl) ?_
          refine lv_iload_n hx hb d_MD_move_42 rfl (lv_at hl 4 rfl) ?_
          refine lv_aload_n hx hb d_MD_move_43 rfl (lv_at hl 1 rfl) ?_
          refine gf_MD_145 C hW.1 d_MD_move_44 ?_
          refine lv_ldc (v := 1000000) hx hb hown (hts _ w_724) d_MD_move_47 ?_
          obtain ⟨r83, g_r83, h⟩ := ob_some h
          refine cl_MD_98 (rest := [.int s0, .ref (ad 0)]) C (hml.trans hl.1.symm) hW.1 g_r83 ⟨Nat.le_of_ble_eq_true rfl, Nat.le_of_ble_eq_true rfl⟩ (Nat.le_of_ble_eq_true rfl) d_MD_move_49 ⟨Nat.zero_le _, Nat.zero_le _⟩ ?_
          refine lv_iload hx hb d_MD_move_52 (lv_at hl 0 rfl) ?_
          refine lv_if_eq (tgt := 84) hx hb d_MD_move_54 (by decide) (fun c84 => ?_) (fun c84 => ?_)
          · rw [if_pos c84] at h
            refine lv_iconst (v := 0) hx hb d_MD_move_84 (by decide) ?_
            have k85 : ∀ (x1 : Int32) (x2 : Int32) (x3 : Int32) (s0 : Int32) (s1 : Int32) (s2 : Int32) (σ : Sg) (h : C_MD_move_85 x1 x2 x3 s0 s1 s2 σ = some out) (H : Heap) (locs : List Loc) (hW : WR G ad cI cZ s σ H locs) (ls : Array Slot) (hl : lv_has ls 7 [(0, .ref (ad 0)), (1, .int x1), (2, .int x2), (3, .int x3)]), W p l e (headSpec wl_MD_move ({ frames := 5, cells := 0, slots := 0, locals := 122 } : Room)).room s m (([.ref (ad 0), .int a1, .int a2, .int a3, .int a4, .int a5] : List Value).toArray) below meth c H locs 0 0 (MQ below (QRi G ad cI cZ out) (([.ref (ad 0), .int a1, .int a2, .int a3, .int a4, .int a5] : List Value).toArray) s 0 0 (AR ad)) (F0 m 85 ls [.int s0, .int s1, .int s2, .ref (ad 0)]) := by
              intro x1 x2 x3 s0 s1 s2 σ h H locs hW ls hl
              unfold C_MD_move_85 at h
              obtain ⟨r112, g_r112, h⟩ := ob_some h
              refine cl_MD_102 (rest := []) C hD (hml.trans hl.1.symm) hW g_r112 ⟨Nat.le_of_ble_eq_true rfl, Nat.le_of_ble_eq_true rfl⟩ (Nat.le_of_ble_eq_true rfl) d_MD_move_85 ⟨Nat.zero_le _, Nat.zero_le _⟩ (fun H locs hW => ?_)
              refine lv_if_ne (tgt := 93) hx hb d_MD_move_88 (by decide) (fun c113 => ?_) (fun c113 => ?_)
              · rw [if_neg c113] at h
                refine lv_aload_n hx hb d_MD_move_93 rfl (lv_at hl 0 rfl) ?_
                refine lv_aload_n hx hb d_MD_move_94 rfl (lv_at hl 0 rfl) ?_
                refine lv_iload_n hx hb d_MD_move_95 rfl (lv_at hl 1 rfl) ?_
                refine lv_iload_n hx hb d_MD_move_96 rfl (lv_at hl 3 rfl) ?_
                obtain ⟨r114, g_r114, h⟩ := ob_some h
                refine cl_MD_130 (rest := [.ref (ad 0)]) C (hml.trans hl.1.symm) hW.1 g_r114 ⟨Nat.le_of_ble_eq_true rfl, Nat.le_of_ble_eq_true rfl⟩ (Nat.le_of_ble_eq_true rfl) d_MD_move_97 ⟨Nat.zero_le _, Nat.zero_le _⟩ ?_
                refine lv_iload_n hx hb d_MD_move_100 rfl (lv_at hl 2 rfl) ?_
                refine lv_iload_n hx hb d_MD_move_101 rfl (lv_at hl 3 rfl) ?_
                obtain ⟨r115, g_r115, h⟩ := ob_some h
                refine cl_MD_151 (rest := []) C (hml.trans hl.1.symm) hW.1 g_r115 ⟨Nat.le_of_ble_eq_true rfl, Nat.le_of_ble_eq_true rfl⟩ (Nat.le_of_ble_eq_true rfl) d_MD_move_102 ⟨Nat.zero_le _, Nat.zero_le _⟩ ?_
                refine lv_if_eq (tgt := 110) hx hb d_MD_move_105 (by decide) (fun c116 => ?_) (fun c116 => ?_)
                · rw [if_pos c116] at h
                  refine lv_aload_n hx hb d_MD_move_110 rfl (lv_at hl 0 rfl) ?_
                  refine lv_iload_n hx hb d_MD_move_111 rfl (lv_at hl 1 rfl) ?_
                  refine lv_iload_n hx hb d_MD_move_112 rfl (lv_at hl 2 rfl) ?_
                  refine lv_iload_n hx hb d_MD_move_113 rfl (lv_at hl 3 rfl) ?_
                  obtain ⟨r117, g_r117, h⟩ := ob_some h
                  refine cl_MD_154 (rest := []) C hD (hml.trans hl.1.symm) hW g_r117 ⟨Nat.le_of_ble_eq_true rfl, Nat.le_of_ble_eq_true rfl⟩ (Nat.le_of_ble_eq_true rfl) d_MD_move_114 ⟨Nat.zero_le _, Nat.zero_le _⟩ (fun H locs hW => ?_)
                  refine lv_if_ne (tgt := 122) hx hb d_MD_move_117 (by decide) (fun c118 => ?_) (fun c118 => ?_)
                  · rw [if_neg c118] at h
                    refine lv_aload_n hx hb d_MD_move_122 rfl (lv_at hl 0 rfl) ?_
                    refine lv_iload_n hx hb d_MD_move_123 rfl (lv_at hl 1 rfl) ?_
                    refine lv_iload_n hx hb d_MD_move_124 rfl (lv_at hl 3 rfl) ?_
                    refine lv_iconst (v := 0) hx hb d_MD_move_125 (by decide) ?_
                    refine lv_iload_n hx hb d_MD_move_126 rfl (lv_at hl 2 rfl) ?_
                    obtain ⟨r119, g_r119, h⟩ := ob_some h
                    refine cl_MD_157 (rest := []) C hD (hml.trans hl.1.symm) hW g_r119 ⟨Nat.le_of_ble_eq_true rfl, Nat.le_of_ble_eq_true rfl⟩ (Nat.le_of_ble_eq_true rfl) d_MD_move_127 ⟨Nat.zero_le _, Nat.zero_le _⟩ (fun H locs hW => ?_)
                    refine lv_iconst (v := 0) hx hb d_MD_move_130 (by decide) ?_
                    exact W.iret hx hb hr (fun t ht _ => qr_i h ht hW) hW.2.2.2 d_MD_move_131
                  · rw [if_pos c118] at h
                    refine lv_iconst (v := 2) hx hb d_MD_move_120 (by decide) ?_
                    exact W.iret hx hb hr (fun t ht _ => qr_i h ht hW) hW.2.2.2 d_MD_move_121
                · rw [if_neg c116] at h
                  refine lv_iconst (v := 1) hx hb d_MD_move_108 (by decide) ?_
                  exact W.iret hx hb hr (fun t ht _ => qr_i h ht hW) hW.2.2.2 d_MD_move_109
              · rw [if_pos c113] at h
                refine lv_iconst (v := 0) hx hb d_MD_move_91 (by decide) ?_
                exact W.iret hx hb hr (fun t ht _ => qr_i h ht hW) hW.2.2.2 d_MD_move_92
            exact k85 x1 x2 x3 0 r83 s0 σ h _ _ hW _ (lv_sub hl [1, 2, 3, 4] rfl)
          · rw [if_neg c84] at h
            refine lv_aload_n hx hb d_MD_move_57 rfl (lv_at hl 1 rfl) ?_
            refine gf_MD_32 C hW.1 d_MD_move_58 ?_
            refine lv_iload_n hx hb d_MD_move_61 rfl (lv_at hl 2 rfl) ?_
            obtain ⟨hin, h⟩ := gd_some h
            refine alR_8 C hW.1 hin d_MD_move_62 ?_
            refine lv_bipush (v := 40) hx hb d_MD_move_63 (by decide) ?_
            refine lv_icmp_ge (tgt := 84) hx hb d_MD_move_65 (by decide) (fun c85 => ?_) (fun c85 => ?_)
            · rw [if_pos c85] at h
              refine lv_iconst (v := 0) hx hb d_MD_move_84 (by decide) ?_
              have k85 : ∀ (x1 : Int32) (x2 : Int32) (x3 : Int32) (s0 : Int32) (s1 : Int32) (s2 : Int32) (σ : Sg) (h : C_MD_move_85 x1 x2 x3 s0 s1 s2 σ = some out) (H : Heap) (locs : List Loc) (hW : WR G ad cI cZ s σ H locs) (ls : Array Slot) (hl : lv_has ls 7 [(0, .ref (ad 0)), (1, .int x1), (2, .int x2), (3, .int x3)]), W p l e (headSpec wl_MD_move ({ frames := 5, cells := 0, slots := 0, locals := 122 } : Room)).room s m (([.ref (ad 0), .int a1, .int a2, .int a3, .int a4, .int a5] : List Value).toArray) below meth c H locs 0 0 (MQ below (QRi G ad cI cZ out) (([.ref (ad 0), .int a1, .int a2, .int a3, .int a4, .int a5] : List Value).toArray) s 0 0 (AR ad)) (F0 m 85 ls [.int s0, .int s1, .int s2, .ref (ad 0)]) := by
                intro x1 x2 x3 s0 s1 s2 σ h H locs hW ls hl
                unfold C_MD_move_85 at h
                obtain ⟨r104, g_r104, h⟩ := ob_some h
                refine cl_MD_102 (rest := []) C hD (hml.trans hl.1.symm) hW g_r104 ⟨Nat.le_of_ble_eq_true rfl, Nat.le_of_ble_eq_true rfl⟩ (Nat.le_of_ble_eq_true rfl) d_MD_move_85 ⟨Nat.zero_le _, Nat.zero_le _⟩ (fun H locs hW => ?_)
                refine lv_if_ne (tgt := 93) hx hb d_MD_move_88 (by decide) (fun c105 => ?_) (fun c105 => ?_)
                · rw [if_neg c105] at h
                  refine lv_aload_n hx hb d_MD_move_93 rfl (lv_at hl 0 rfl) ?_
                  refine lv_aload_n hx hb d_MD_move_94 rfl (lv_at hl 0 rfl) ?_
                  refine lv_iload_n hx hb d_MD_move_95 rfl (lv_at hl 1 rfl) ?_
                  refine lv_iload_n hx hb d_MD_move_96 rfl (lv_at hl 3 rfl) ?_
                  obtain ⟨r106, g_r106, h⟩ := ob_some h
                  refine cl_MD_130 (rest := [.ref (ad 0)]) C (hml.trans hl.1.symm) hW.1 g_r106 ⟨Nat.le_of_ble_eq_true rfl, Nat.le_of_ble_eq_true rfl⟩ (Nat.le_of_ble_eq_true rfl) d_MD_move_97 ⟨Nat.zero_le _, Nat.zero_le _⟩ ?_
                  refine lv_iload_n hx hb d_MD_move_100 rfl (lv_at hl 2 rfl) ?_
                  refine lv_iload_n hx hb d_MD_move_101 rfl (lv_at hl 3 rfl) ?_
                  obtain ⟨r107, g_r107, h⟩ := ob_some h
                  refine cl_MD_151 (rest := []) C (hml.trans hl.1.symm) hW.1 g_r107 ⟨Nat.le_of_ble_eq_true rfl, Nat.le_of_ble_eq_true rfl⟩ (Nat.le_of_ble_eq_true rfl) d_MD_move_102 ⟨Nat.zero_le _, Nat.zero_le _⟩ ?_
                  refine lv_if_eq (tgt := 110) hx hb d_MD_move_105 (by decide) (fun c108 => ?_) (fun c108 => ?_)
                  · rw [if_pos c108] at h
                    refine lv_aload_n hx hb d_MD_move_110 rfl (lv_at hl 0 rfl) ?_
                    refine lv_iload_n hx hb d_MD_move_111 rfl (lv_at hl 1 rfl) ?_
                    refine lv_iload_n hx hb d_MD_move_112 rfl (lv_at hl 2 rfl) ?_
                    refine lv_iload_n hx hb d_MD_move_113 rfl (lv_at hl 3 rfl) ?_
                    obtain ⟨r109, g_r109, h⟩ := ob_some h
                    refine cl_MD_154 (rest := []) C hD (hml.trans hl.1.symm) hW g_r109 ⟨Nat.le_of_ble_eq_true rfl, Nat.le_of_ble_eq_true rfl⟩ (Nat.le_of_ble_eq_true rfl) d_MD_move_114 ⟨Nat.zero_le _, Nat.zero_le _⟩ (fun H locs hW => ?_)
                    refine lv_if_ne (tgt := 122) hx hb d_MD_move_117 (by decide) (fun c110 => ?_) (fun c110 => ?_)
                    · rw [if_neg c110] at h
                      refine lv_aload_n hx hb d_MD_move_122 rfl (lv_at hl 0 rfl) ?_
                      refine lv_iload_n hx hb d_MD_move_123 rfl (lv_at hl 1 rfl) ?_
                      refine lv_iload_n hx hb d_MD_move_124 rfl (lv_at hl 3 rfl) ?_
                      refine lv_iconst (v := 0) hx hb d_MD_move_125 (by decide) ?_
                      refine lv_iload_n hx hb d_MD_move_126 rfl (lv_at hl 2 rfl) ?_
                      obtain ⟨r111, g_r111, h⟩ := ob_some h
                      refine cl_MD_157 (rest := []) C hD (hml.trans hl.1.symm) hW g_r111 ⟨Nat.le_of_ble_eq_true rfl, Nat.le_of_ble_eq_true rfl⟩ (Nat.le_of_ble_eq_true rfl) d_MD_move_127 ⟨Nat.zero_le _, Nat.zero_le _⟩ (fun H locs hW => ?_)
                      refine lv_iconst (v := 0) hx hb d_MD_move_130 (by decide) ?_
                      exact W.iret hx hb hr (fun t ht _ => qr_i h ht hW) hW.2.2.2 d_MD_move_131
                    · rw [if_pos c110] at h
                      refine lv_iconst (v := 2) hx hb d_MD_move_120 (by decide) ?_
                      exact W.iret hx hb hr (fun t ht _ => qr_i h ht hW) hW.2.2.2 d_MD_move_121
                  · rw [if_neg c108] at h
                    refine lv_iconst (v := 1) hx hb d_MD_move_108 (by decide) ?_
                    exact W.iret hx hb hr (fun t ht _ => qr_i h ht hW) hW.2.2.2 d_MD_move_109
                · rw [if_pos c105] at h
                  refine lv_iconst (v := 0) hx hb d_MD_move_91 (by decide) ?_
                  exact W.iret hx hb hr (fun t ht _ => qr_i h ht hW) hW.2.2.2 d_MD_move_92
              exact k85 x1 x2 x3 0 r83 s0 σ h _ _ hW _ (lv_sub hl [1, 2, 3, 4] rfl)
            · rw [if_neg c85] at h
              refine lv_aload_n hx hb d_MD_move_68 rfl (lv_at hl 1 rfl) ?_
              refine lv_iload_n hx hb d_MD_move_69 rfl (lv_at hl 2 rfl) ?_
              refine lv_iload hx hb d_MD_move_70 (lv_at hl 5 rfl) ?_
              refine lv_iload hx hb d_MD_move_72 (lv_at hl 6 rfl) ?_
              obtain ⟨r86, g_r86, h⟩ := ob_some h
              refine cl_MD_148 (rest := [.int r83, .int s0, .ref (ad 0)]) C (hml.trans hl.1.symm) hW.1 g_r86 ⟨Nat.le_of_ble_eq_true rfl, Nat.le_of_ble_eq_true rfl⟩ (Nat.le_of_ble_eq_true rfl) d_MD_move_74 ⟨Nat.zero_le _, Nat.zero_le _⟩ ?_
              refine lv_if_eq (tgt := 84) hx hb d_MD_move_77 (by decide) (fun c87 => ?_) (fun c87 => ?_)
              · rw [if_pos c87] at h
                refine lv_iconst (v := 0) hx hb d_MD_move_84 (by decide) ?_
                have k85 : ∀ (x1 : Int32) (x2 : Int32) (x3 : Int32) (s0 : Int32) (s1 : Int32) (s2 : Int32) (σ : Sg) (h : C_MD_move_85 x1 x2 x3 s0 s1 s2 σ = some out) (H : Heap) (locs : List Loc) (hW : WR G ad cI cZ s σ H locs) (ls : Array Slot) (hl : lv_has ls 7 [(0, .ref (ad 0)), (1, .int x1), (2, .int x2), (3, .int x3)]), W p l e (headSpec wl_MD_move ({ frames := 5, cells := 0, slots := 0, locals := 122 } : Room)).room s m (([.ref (ad 0), .int a1, .int a2, .int a3, .int a4, .int a5] : List Value).toArray) below meth c H locs 0 0 (MQ below (QRi G ad cI cZ out) (([.ref (ad 0), .int a1, .int a2, .int a3, .int a4, .int a5] : List Value).toArray) s 0 0 (AR ad)) (F0 m 85 ls [.int s0, .int s1, .int s2, .ref (ad 0)]) := by
                  intro x1 x2 x3 s0 s1 s2 σ h H locs hW ls hl
                  unfold C_MD_move_85 at h
                  obtain ⟨r96, g_r96, h⟩ := ob_some h
                  refine cl_MD_102 (rest := []) C hD (hml.trans hl.1.symm) hW g_r96 ⟨Nat.le_of_ble_eq_true rfl, Nat.le_of_ble_eq_true rfl⟩ (Nat.le_of_ble_eq_true rfl) d_MD_move_85 ⟨Nat.zero_le _, Nat.zero_le _⟩ (fun H locs hW => ?_)
                  refine lv_if_ne (tgt := 93) hx hb d_MD_move_88 (by decide) (fun c97 => ?_) (fun c97 => ?_)
                  · rw [if_neg c97] at h
                    refine lv_aload_n hx hb d_MD_move_93 rfl (lv_at hl 0 rfl) ?_
                    refine lv_aload_n hx hb d_MD_move_94 rfl (lv_at hl 0 rfl) ?_
                    refine lv_iload_n hx hb d_MD_move_95 rfl (lv_at hl 1 rfl) ?_
                    refine lv_iload_n hx hb d_MD_move_96 rfl (lv_at hl 3 rfl) ?_
                    obtain ⟨r98, g_r98, h⟩ := ob_some h
                    refine cl_MD_130 (rest := [.ref (ad 0)]) C (hml.trans hl.1.symm) hW.1 g_r98 ⟨Nat.le_of_ble_eq_true rfl, Nat.le_of_ble_eq_true rfl⟩ (Nat.le_of_ble_eq_true rfl) d_MD_move_97 ⟨Nat.zero_le _, Nat.zero_le _⟩ ?_
                    refine lv_iload_n hx hb d_MD_move_100 rfl (lv_at hl 2 rfl) ?_
                    refine lv_iload_n hx hb d_MD_move_101 rfl (lv_at hl 3 rfl) ?_
                    obtain ⟨r99, g_r99, h⟩ := ob_some h
                    refine cl_MD_151 (rest := []) C (hml.trans hl.1.symm) hW.1 g_r99 ⟨Nat.le_of_ble_eq_true rfl, Nat.le_of_ble_eq_true rfl⟩ (Nat.le_of_ble_eq_true rfl) d_MD_move_102 ⟨Nat.zero_le _, Nat.zero_le _⟩ ?_
                    refine lv_if_eq (tgt := 110) hx hb d_MD_move_105 (by decide) (fun c100 => ?_) (fun c100 => ?_)
                    · rw [if_pos c100] at h
                      refine lv_aload_n hx hb d_MD_move_110 rfl (lv_at hl 0 rfl) ?_
                      refine lv_iload_n hx hb d_MD_move_111 rfl (lv_at hl 1 rfl) ?_
                      refine lv_iload_n hx hb d_MD_move_112 rfl (lv_at hl 2 rfl) ?_
                      refine lv_iload_n hx hb d_MD_move_113 rfl (lv_at hl 3 rfl) ?_
                      obtain ⟨r101, g_r101, h⟩ := ob_some h
                      refine cl_MD_154 (rest := []) C hD (hml.trans hl.1.symm) hW g_r101 ⟨Nat.le_of_ble_eq_true rfl, Nat.le_of_ble_eq_true rfl⟩ (Nat.le_of_ble_eq_true rfl) d_MD_move_114 ⟨Nat.zero_le _, Nat.zero_le _⟩ (fun H locs hW => ?_)
                      refine lv_if_ne (tgt := 122) hx hb d_MD_move_117 (by decide) (fun c102 => ?_) (fun c102 => ?_)
                      · rw [if_neg c102] at h
                        refine lv_aload_n hx hb d_MD_move_122 rfl (lv_at hl 0 rfl) ?_
                        refine lv_iload_n hx hb d_MD_move_123 rfl (lv_at hl 1 rfl) ?_
                        refine lv_iload_n hx hb d_MD_move_124 rfl (lv_at hl 3 rfl) ?_
                        refine lv_iconst (v := 0) hx hb d_MD_move_125 (by decide) ?_
                        refine lv_iload_n hx hb d_MD_move_126 rfl (lv_at hl 2 rfl) ?_
                        obtain ⟨r103, g_r103, h⟩ := ob_some h
                        refine cl_MD_157 (rest := []) C hD (hml.trans hl.1.symm) hW g_r103 ⟨Nat.le_of_ble_eq_true rfl, Nat.le_of_ble_eq_true rfl⟩ (Nat.le_of_ble_eq_true rfl) d_MD_move_127 ⟨Nat.zero_le _, Nat.zero_le _⟩ (fun H locs hW => ?_)
                        refine lv_iconst (v := 0) hx hb d_MD_move_130 (by decide) ?_
                        exact W.iret hx hb hr (fun t ht _ => qr_i h ht hW) hW.2.2.2 d_MD_move_131
                      · rw [if_pos c102] at h
                        refine lv_iconst (v := 2) hx hb d_MD_move_120 (by decide) ?_
                        exact W.iret hx hb hr (fun t ht _ => qr_i h ht hW) hW.2.2.2 d_MD_move_121
                    · rw [if_neg c100] at h
                      refine lv_iconst (v := 1) hx hb d_MD_move_108 (by decide) ?_
                      exact W.iret hx hb hr (fun t ht _ => qr_i h ht hW) hW.2.2.2 d_MD_move_109
                  · rw [if_pos c97] at h
                    refine lv_iconst (v := 0) hx hb d_MD_move_91 (by decide) ?_
                    exact W.iret hx hb hr (fun t ht _ => qr_i h ht hW) hW.2.2.2 d_MD_move_92
                exact k85 x1 x2 x3 0 r83 s0 σ h _ _ hW _ (lv_sub hl [1, 2, 3, 4] rfl)
              · rw [if_neg c87] at h
                refine lv_iconst (v := 1) hx hb d_MD_move_80 (by decide) ?_
                refine lv_goto (tgt := 85) hx hb d_MD_move_81 (by decide) ?_
                have k85 : ∀ (x1 : Int32) (x2 : Int32) (x3 : Int32) (s0 : Int32) (s1 : Int32) (s2 : Int32) (σ : Sg) (h : C_MD_move_85 x1 x2 x3 s0 s1 s2 σ = some out) (H : Heap) (locs : List Loc) (hW : WR G ad cI cZ s σ H locs) (ls : Array Slot) (hl : lv_has ls 7 [(0, .ref (ad 0)), (1, .int x1), (2, .int x2), (3, .int x3)]), W p l e (headSpec wl_MD_move ({ frames := 5, cells := 0, slots := 0, locals := 122 } : Room)).room s m (([.ref (ad 0), .int a1, .int a2, .int a3, .int a4, .int a5] : List Value).toArray) below meth c H locs 0 0 (MQ below (QRi G ad cI cZ out) (([.ref (ad 0), .int a1, .int a2, .int a3, .int a4, .int a5] : List Value).toArray) s 0 0 (AR ad)) (F0 m 85 ls [.int s0, .int s1, .int s2, .ref (ad 0)]) := by
                  intro x1 x2 x3 s0 s1 s2 σ h H locs hW ls hl
                  unfold C_MD_move_85 at h
                  obtain ⟨r88, g_r88, h⟩ := ob_some h
                  refine cl_MD_102 (rest := []) C hD (hml.trans hl.1.symm) hW g_r88 ⟨Nat.le_of_ble_eq_true rfl, Nat.le_of_ble_eq_true rfl⟩ (Nat.le_of_ble_eq_true rfl) d_MD_move_85 ⟨Nat.zero_le _, Nat.zero_le _⟩ (fun H locs hW => ?_)
                  refine lv_if_ne (tgt := 93) hx hb d_MD_move_88 (by decide) (fun c89 => ?_) (fun c89 => ?_)
                  · rw [if_neg c89] at h
                    refine lv_aload_n hx hb d_MD_move_93 rfl (lv_at hl 0 rfl) ?_
                    refine lv_aload_n hx hb d_MD_move_94 rfl (lv_at hl 0 rfl) ?_
                    refine lv_iload_n hx hb d_MD_move_95 rfl (lv_at hl 1 rfl) ?_
                    refine lv_iload_n hx hb d_MD_move_96 rfl (lv_at hl 3 rfl) ?_
                    obtain ⟨r90, g_r90, h⟩ := ob_some h
                    refine cl_MD_130 (rest := [.ref (ad 0)]) C (hml.trans hl.1.symm) hW.1 g_r90 ⟨Nat.le_of_ble_eq_true rfl, Nat.le_of_ble_eq_true rfl⟩ (Nat.le_of_ble_eq_true rfl) d_MD_move_97 ⟨Nat.zero_le _, Nat.zero_le _⟩ ?_
                    refine lv_iload_n hx hb d_MD_move_100 rfl (lv_at hl 2 rfl) ?_
                    refine lv_iload_n hx hb d_MD_move_101 rfl (lv_at hl 3 rfl) ?_
                    obtain ⟨r91, g_r91, h⟩ := ob_some h
                    refine cl_MD_151 (rest := []) C (hml.trans hl.1.symm) hW.1 g_r91 ⟨Nat.le_of_ble_eq_true rfl, Nat.le_of_ble_eq_true rfl⟩ (Nat.le_of_ble_eq_true rfl) d_MD_move_102 ⟨Nat.zero_le _, Nat.zero_le _⟩ ?_
                    refine lv_if_eq (tgt := 110) hx hb d_MD_move_105 (by decide) (fun c92 => ?_) (fun c92 => ?_)
                    · rw [if_pos c92] at h
                      refine lv_aload_n hx hb d_MD_move_110 rfl (lv_at hl 0 rfl) ?_
                      refine lv_iload_n hx hb d_MD_move_111 rfl (lv_at hl 1 rfl) ?_
                      refine lv_iload_n hx hb d_MD_move_112 rfl (lv_at hl 2 rfl) ?_
                      refine lv_iload_n hx hb d_MD_move_113 rfl (lv_at hl 3 rfl) ?_
                      obtain ⟨r93, g_r93, h⟩ := ob_some h
                      refine cl_MD_154 (rest := []) C hD (hml.trans hl.1.symm) hW g_r93 ⟨Nat.le_of_ble_eq_true rfl, Nat.le_of_ble_eq_true rfl⟩ (Nat.le_of_ble_eq_true rfl) d_MD_move_114 ⟨Nat.zero_le _, Nat.zero_le _⟩ (fun H locs hW => ?_)
                      refine lv_if_ne (tgt := 122) hx hb d_MD_move_117 (by decide) (fun c94 => ?_) (fun c94 => ?_)
                      · rw [if_neg c94] at h
                        refine lv_aload_n hx hb d_MD_move_122 rfl (lv_at hl 0 rfl) ?_
                        refine lv_iload_n hx hb d_MD_move_123 rfl (lv_at hl 1 rfl) ?_
                        refine lv_iload_n hx hb d_MD_move_124 rfl (lv_at hl 3 rfl) ?_
                        refine lv_iconst (v := 0) hx hb d_MD_move_125 (by decide) ?_
                        refine lv_iload_n hx hb d_MD_move_126 rfl (lv_at hl 2 rfl) ?_
                        obtain ⟨r95, g_r95, h⟩ := ob_some h
                        refine cl_MD_157 (rest := []) C hD (hml.trans hl.1.symm) hW g_r95 ⟨Nat.le_of_ble_eq_true rfl, Nat.le_of_ble_eq_true rfl⟩ (Nat.le_of_ble_eq_true rfl) d_MD_move_127 ⟨Nat.zero_le _, Nat.zero_le _⟩ (fun H locs hW => ?_)
                        refine lv_iconst (v := 0) hx hb d_MD_move_130 (by decide) ?_
                        exact W.iret hx hb hr (fun t ht _ => qr_i h ht hW) hW.2.2.2 d_MD_move_131
                      · rw [if_pos c94] at h
                        refine lv_iconst (v := 2) hx hb d_MD_move_120 (by decide) ?_
                        exact W.iret hx hb hr (fun t ht _ => qr_i h ht hW) hW.2.2.2 d_MD_move_121
                    · rw [if_neg c92] at h
                      refine lv_iconst (v := 1) hx hb d_MD_move_108 (by decide) ?_
                      exact W.iret hx hb hr (fun t ht _ => qr_i h ht hW) hW.2.2.2 d_MD_move_109
                  · rw [if_pos c89] at h
                    refine lv_iconst (v := 0) hx hb d_MD_move_91 (by decide) ?_
                    exact W.iret hx hb hr (fun t ht _ => qr_i h ht hW) hW.2.2.2 d_MD_move_92
                exact k85 x1 x2 x3 1 r83 s0 σ h _ _ hW _ (lv_sub hl [1, 2, 3, 4] rfl)
        exact k37 a1 a2 a3 a4 a5 0 σ h _ _ hW _ (lv_sub hl [0, 1, 2, 3, 4, 5] rfl)
      · rw [if_neg c6] at h
        refine lv_iload hx hb d_MD_move_24 (lv_at hl 5 rfl) ?_
        obtain ⟨r7, g_r7, h⟩ := ob_some h
        refine cl_MD_113 (rest := []) C (hml.trans hl.1.symm) hW.1 g_r7 ⟨Nat.le_of_ble_eq_true rfl, Nat.le_of_ble_eq_true rfl⟩ (Nat.le_of_ble_eq_true rfl) d_MD_move_26 ⟨Nat.zero_le _, Nat.zero_le _⟩ ?_
        refine lv_if_eq (tgt := 36) hx hb d_MD_move_29 (by decide) (fun c8 => ?_) (fun c8 => ?_)
        · rw [if_pos c8] at h
          refine lv_iconst (v := 0) hx hb d_MD_move_36 (by decide) ?_
          have k37 : ∀ (x1 : Int32) (x2 : Int32) (x3 : Int32) (x4 : Int32) (x5 : Int32) (s0 : Int32) (σ : Sg) (h : C_MD_move_37 x1 x2 x3 x4 x5 s0 σ = some out) (H : Heap) (locs : List Loc) (hW : WR G ad cI cZ s σ H locs) (ls : Array Slot) (hl : lv_has ls 7 [(0, .ref (ad 0)), (1, .int x1), (2, .int x2), (3, .int x3), (4, .int x4), (5, .int x5)]), W p l e (headSpec wl_MD_move ({ frames := 5, cells := 0, slots := 0, locals := 122 } : Room)).room s m (([.ref (ad 0), .int a1, .int a2, .int a3, .int a4, .int a5] : List Value).toArray) below meth c H locs 0 0 (MQ below (QRi G ad cI cZ out) (([.ref (ad 0), .int a1, .int a2, .int a3, .int a4, .int a5] : List Value).toArray) s 0 0 (AR ad)) (F0 m 37 ls [.int s0]) := by
            intro x1 x2 x3 x4 x5 s0 σ h H locs hW ls hl
            unfold C_MD_move_37 at h
            refine lv_istore (lv' := [(6, .int s0), (0, .ref (ad 0)), (1, .int x1), (2, .int x2), (3, .int x3), (4, .int x4), (5, .int x5)]) hx hb d_MD_move_37 hl (by decide) rfl (fun ls hl => ?_)
            refine lv_aload_n hx hb d_MD_move_39 rfl (lv_at hl 1 rfl) ?_
            refine lv_iload hx hb d_MD_move_40 (lv_at hl 0 rfl) ?_
            refine lv_iload_n hx hb d_MD_move_42 rfl (lv_at hl 4 rfl) ?_
            refine lv_aload_n hx hb d_MD_move_43 rfl (lv_at hl 1 rfl) ?_
            refine gf_MD_145 C hW.1 d_MD_move_44 ?_
            refine lv_ldc (v := 1000000) hx hb hown (hts _ w_724) d_MD_move_47 ?_
            obtain ⟨r46, g_r46, h⟩ := ob_some h
            refine cl_MD_98 (rest := [.int s0, .ref (ad 0)]) C (hml.trans hl.1.symm) hW.1 g_r46 ⟨Nat.le_of_ble_eq_true rfl, Nat.le_of_ble_eq_true rfl⟩ (Nat.le_of_ble_eq_true rfl) d_MD_move_49 ⟨Nat.zero_le _, Nat.zero_le _⟩ ?_
            refine lv_iload hx hb d_MD_move_52 (lv_at hl 0 rfl) ?_
            refine lv_if_eq (tgt := 84) hx hb d_MD_move_54 (by decide) (fun c47 => ?_) (fun c47 => ?_)
            · rw [if_pos c47] at h
              refine lv_iconst (v := 0) hx hb d_MD_move_84 (by decide) ?_
              have k85 : ∀ (x1 : Int32) (x2 : Int32) (x3 : Int32) (s0 : Int32) (s1 : Int32) (s2 : Int32) (σ : Sg) (h : C_MD_move_85 x1 x2 x3 s0 s1 s2 σ = some out) (H : Heap) (locs : List Loc) (hW : WR G ad cI cZ s σ H locs) (ls : Array Slot) (hl : lv_has ls 7 [(0, .ref (ad 0)), (1, .int x1), (2, .int x2), (3, .int x3)]), W p l e (headSpec wl_MD_move ({ frames := 5, cells := 0, slots := 0, locals := 122 } : Room)).room s m (([.ref (ad 0), .int a1, .int a2, .int a3, .int a4, .int a5] : List Value).toArray) below meth c H locs 0 0 (MQ below (QRi G ad cI cZ out) (([.ref (ad 0), .int a1, .int a2, .int a3, .int a4, .int a5] : List Value).toArray) s 0 0 (AR ad)) (F0 m 85 ls [.int s0, .int s1, .int s2, .ref (ad 0)]) := by
                intro x1 x2 x3 s0 s1 s2 σ h H locs hW ls hl
                unfold C_MD_move_85 at h
                obtain ⟨r75, g_r75, h⟩ := ob_some h
                refine cl_MD_102 (rest := []) C hD (hml.trans hl.1.symm) hW g_r75 ⟨Nat.le_of_ble_eq_true rfl, Nat.le_of_ble_eq_true rfl⟩ (Nat.le_of_ble_eq_true rfl) d_MD_move_85 ⟨Nat.zero_le _, Nat.zero_le _⟩ (fun H locs hW => ?_)
                refine lv_if_ne (tgt := 93) hx hb d_MD_move_88 (by decide) (fun c76 => ?_) (fun c76 => ?_)
                · rw [if_neg c76] at h
                  refine lv_aload_n hx hb d_MD_move_93 rfl (lv_at hl 0 rfl) ?_
                  refine lv_aload_n hx hb d_MD_move_94 rfl (lv_at hl 0 rfl) ?_
                  refine lv_iload_n hx hb d_MD_move_95 rfl (lv_at hl 1 rfl) ?_
                  refine lv_iload_n hx hb d_MD_move_96 rfl (lv_at hl 3 rfl) ?_
                  obtain ⟨r77, g_r77, h⟩ := ob_some h
                  refine cl_MD_130 (rest := [.ref (ad 0)]) C (hml.trans hl.1.symm) hW.1 g_r77 ⟨Nat.le_of_ble_eq_true rfl, Nat.le_of_ble_eq_true rfl⟩ (Nat.le_of_ble_eq_true rfl) d_MD_move_97 ⟨Nat.zero_le _, Nat.zero_le _⟩ ?_
                  refine lv_iload_n hx hb d_MD_move_100 rfl (lv_at hl 2 rfl) ?_
                  refine lv_iload_n hx hb d_MD_move_101 rfl (lv_at hl 3 rfl) ?_
                  obtain ⟨r78, g_r78, h⟩ := ob_some h
                  refine cl_MD_151 (rest := []) C (hml.trans hl.1.symm) hW.1 g_r78 ⟨Nat.le_of_ble_eq_true rfl, Nat.le_of_ble_eq_true rfl⟩ (Nat.le_of_ble_eq_true rfl) d_MD_move_102 ⟨Nat.zero_le _, Nat.zero_le _⟩ ?_
                  refine lv_if_eq (tgt := 110) hx hb d_MD_move_105 (by decide) (fun c79 => ?_) (fun c79 => ?_)
                  · rw [if_pos c79] at h
                    refine lv_aload_n hx hb d_MD_move_110 rfl (lv_at hl 0 rfl) ?_
                    refine lv_iload_n hx hb d_MD_move_111 rfl (lv_at hl 1 rfl) ?_
                    refine lv_iload_n hx hb d_MD_move_112 rfl (lv_at hl 2 rfl) ?_
                    refine lv_iload_n hx hb d_MD_move_113 rfl (lv_at hl 3 rfl) ?_
                    obtain ⟨r80, g_r80, h⟩ := ob_some h
                    refine cl_MD_154 (rest := []) C hD (hml.trans hl.1.symm) hW g_r80 ⟨Nat.le_of_ble_eq_true rfl, Nat.le_of_ble_eq_true rfl⟩ (Nat.le_of_ble_eq_true rfl) d_MD_move_114 ⟨Nat.zero_le _, Nat.zero_le _⟩ (fun H locs hW => ?_)
                    refine lv_if_ne (tgt := 122) hx hb d_MD_move_117 (by decide) (fun c81 => ?_) (fun c81 => ?_)
                    · rw [if_neg c81] at h
                      refine lv_aload_n hx hb d_MD_move_122 rfl (lv_at hl 0 rfl) ?_
                      refine lv_iload_n hx hb d_MD_move_123 rfl (lv_at hl 1 rfl) ?_
                      refine lv_iload_n hx hb d_MD_move_124 rfl (lv_at hl 3 rfl) ?_
                      refine lv_iconst (v := 0) hx hb d_MD_move_125 (by decide) ?_
                      refine lv_iload_n hx hb d_MD_move_126 rfl (lv_at hl 2 rfl) ?_
                      obtain ⟨r82, g_r82, h⟩ := ob_some h
                      refine cl_MD_157 (rest := []) C hD (hml.trans hl.1.symm) hW g_r82 ⟨Nat.le_of_ble_eq_true rfl, Nat.le_of_ble_eq_true rfl⟩ (Nat.le_of_ble_eq_true rfl) d_MD_move_127 ⟨Nat.zero_le _, Nat.zero_le _⟩ (fun H locs hW => ?_)
                      refine lv_iconst (v := 0) hx hb d_MD_move_130 (by decide) ?_
                      exact W.iret hx hb hr (fun t ht _ => qr_i h ht hW) hW.2.2.2 d_MD_move_131
                    · rw [if_pos c81] at h
                      refine lv_iconst (v := 2) hx hb d_MD_move_120 (by decide) ?_
                      exact W.iret hx hb hr (fun t ht _ => qr_i h ht hW) hW.2.2.2 d_MD_move_121
                  · rw [if_neg c79] at h
                    refine lv_iconst (v := 1) hx hb d_MD_move_108 (by decide) ?_
                    exact W.iret hx hb hr (fun t ht _ => qr_i h ht hW) hW.2.2.2 d_MD_move_109
                · rw [if_pos c76] at h
                  refine lv_iconst (v := 0) hx hb d_MD_move_91 (by decide) ?_
                  exact W.iret hx hb hr (fun t ht _ => qr_i h ht hW) hW.2.2.2 d_MD_move_92
              exact k85 x1 x2 x3 0 r46 s0 σ h _ _ hW _ (lv_sub hl [1, 2, 3, 4] rfl)
            · rw [if_neg c47] at h
              refine lv_aload_n hx hb d_MD_move_57 rfl (lv_at hl 1 rfl) ?_
              refine gf_MD_32 C hW.1 d_MD_move_58 ?_
              refine lv_iload_n hx hb d_MD_move_61 rfl (lv_at hl 2 rfl) ?_
              obtain ⟨hin, h⟩ := gd_some h
              refine alR_8 C hW.1 hin d_MD_move_62 ?_
              refine lv_bipush (v := 40) hx hb d_MD_move_63 (by decide) ?_
              refine lv_icmp_ge (tgt := 84) hx hb d_MD_move_65 (by decide) (fun c48 => ?_) (fun c48 => ?_)
              · rw [if_pos c48] at h
                refine lv_iconst (v := 0) hx hb d_MD_move_84 (by decide) ?_
                have k85 : ∀ (x1 : Int32) (x2 : Int32) (x3 : Int32) (s0 : Int32) (s1 : Int32) (s2 : Int32) (σ : Sg) (h : C_MD_move_85 x1 x2 x3 s0 s1 s2 σ = some out) (H : Heap) (locs : List Loc) (hW : WR G ad cI cZ s σ H locs) (ls : Array Slot) (hl : lv_has ls 7 [(0, .ref (ad 0)), (1, .int x1), (2, .int x2), (3, .int x3)]), W p l e (headSpec wl_MD_move ({ frames := 5, cells := 0, slots := 0, locals := 122 } : Room)).room s m (([.ref (ad 0), .int a1, .int a2, .int a3, .int a4, .int a5] : List Value).toArray) below meth c H locs 0 0 (MQ below (QRi G ad cI cZ out) (([.ref (ad 0), .int a1, .int a2, .int a3, .int a4, .int a5] : List Value).toArray) s 0 0 (AR ad)) (F0 m 85 ls [.int s0, .int s1, .int s2, .ref (ad 0)]) := by
                  intro x1 x2 x3 s0 s1 s2 σ h H locs hW ls hl
                  unfold C_MD_move_85 at h
                  obtain ⟨r67, g_r67, h⟩ := ob_some h
                  refine cl_MD_102 (rest := []) C hD (hml.trans hl.1.symm) hW g_r67 ⟨Nat.le_of_ble_eq_true rfl, Nat.le_of_ble_eq_true rfl⟩ (Nat.le_of_ble_eq_true rfl) d_MD_move_85 ⟨Nat.zero_le _, Nat.zero_le _⟩ (fun H locs hW => ?_)
                  refine lv_if_ne (tgt := 93) hx hb d_MD_move_88 (by decide) (fun c68 => ?_) (fun c68 => ?_)
                  · rw [if_neg c68] at h
                    refine lv_aload_n hx hb d_MD_move_93 rfl (lv_at hl 0 rfl) ?_
                    refine lv_aload_n hx hb d_MD_move_94 rfl (lv_at hl 0 rfl) ?_
                    refine lv_iload_n hx hb d_MD_move_95 rfl (lv_at hl 1 rfl) ?_
                    refine lv_iload_n hx hb d_MD_move_96 rfl (lv_at hl 3 rfl) ?_
                    obtain ⟨r69, g_r69, h⟩ := ob_some h
                    refine cl_MD_130 (rest := [.ref (ad 0)]) C (hml.trans hl.1.symm) hW.1 g_r69 ⟨Nat.le_of_ble_eq_true rfl, Nat.le_of_ble_eq_true rfl⟩ (Nat.le_of_ble_eq_true rfl) d_MD_move_97 ⟨Nat.zero_le _, Nat.zero_le _⟩ ?_
                    refine lv_iload_n hx hb d_MD_move_100 rfl (lv_at hl 2 rfl) ?_
                    refine lv_iload_n hx hb d_MD_move_101 rfl (lv_at hl 3 rfl) ?_
                    obtain ⟨r70, g_r70, h⟩ := ob_some h
                    refine cl_MD_151 (rest := []) C (hml.trans hl.1.symm) hW.1 g_r70 ⟨Nat.le_of_ble_eq_true rfl, Nat.le_of_ble_eq_true rfl⟩ (Nat.le_of_ble_eq_true rfl) d_MD_move_102 ⟨Nat.zero_le _, Nat.zero_le _⟩ ?_
                    refine lv_if_eq (tgt := 110) hx hb d_MD_move_105 (by decide) (fun c71 => ?_) (fun c71 => ?_)
                    · rw [if_pos c71] at h
                      refine lv_aload_n hx hb d_MD_move_110 rfl (lv_at hl 0 rfl) ?_
                      refine lv_iload_n hx hb d_MD_move_111 rfl (lv_at hl 1 rfl) ?_
                      refine lv_iload_n hx hb d_MD_move_112 rfl (lv_at hl 2 rfl) ?_
                      refine lv_iload_n hx hb d_MD_move_113 rfl (lv_at hl 3 rfl) ?_
                      obtain ⟨r72, g_r72, h⟩ := ob_some h
                      refine cl_MD_154 (rest := []) C hD (hml.trans hl.1.symm) hW g_r72 ⟨Nat.le_of_ble_eq_true rfl, Nat.le_of_ble_eq_true rfl⟩ (Nat.le_of_ble_eq_true rfl) d_MD_move_114 ⟨Nat.zero_le _, Nat.zero_le _⟩ (fun H locs hW => ?_)
                      refine lv_if_ne (tgt := 122) hx hb d_MD_move_117 (by decide) (fun c73 => ?_) (fun c73 => ?_)
                      · rw [if_neg c73] at h
                        refine lv_aload_n hx hb d_MD_move_122 rfl (lv_at hl 0 rfl) ?_
                        refine lv_iload_n hx hb d_MD_move_123 rfl (lv_at hl 1 rfl) ?_
                        refine lv_iload_n hx hb d_MD_move_124 rfl (lv_at hl 3 rfl) ?_
                        refine lv_iconst (v := 0) hx hb d_MD_move_125 (by decide) ?_
                        refine lv_iload_n hx hb d_MD_move_126 rfl (lv_at hl 2 rfl) ?_
                        obtain ⟨r74, g_r74, h⟩ := ob_some h
                        refine cl_MD_157 (rest := []) C hD (hml.trans hl.1.symm) hW g_r74 ⟨Nat.le_of_ble_eq_true rfl, Nat.le_of_ble_eq_true rfl⟩ (Nat.le_of_ble_eq_true rfl) d_MD_move_127 ⟨Nat.zero_le _, Nat.zero_le _⟩ (fun H locs hW => ?_)
                        refine lv_iconst (v := 0) hx hb d_MD_move_130 (by decide) ?_
                        exact W.iret hx hb hr (fun t ht _ => qr_i h ht hW) hW.2.2.2 d_MD_move_131
                      · rw [if_pos c73] at h
                        refine lv_iconst (v := 2) hx hb d_MD_move_120 (by decide) ?_
                        exact W.iret hx hb hr (fun t ht _ => qr_i h ht hW) hW.2.2.2 d_MD_move_121
                    · rw [if_neg c71] at h
                      refine lv_iconst (v := 1) hx hb d_MD_move_108 (by decide) ?_
                      exact W.iret hx hb hr (fun t ht _ => qr_i h ht hW) hW.2.2.2 d_MD_move_109
                  · rw [if_pos c68] at h
                    refine lv_iconst (v := 0) hx hb d_MD_move_91 (by decide) ?_
                    exact W.iret hx hb hr (fun t ht _ => qr_i h ht hW) hW.2.2.2 d_MD_move_92
                exact k85 x1 x2 x3 0 r46 s0 σ h _ _ hW _ (lv_sub hl [1, 2, 3, 4] rfl)
              · rw [if_neg c48] at h
                refine lv_aload_n hx hb d_MD_move_68 rfl (lv_at hl 1 rfl) ?_
                refine lv_iload_n hx hb d_MD_move_69 rfl (lv_at hl 2 rfl) ?_
                refine lv_iload hx hb d_MD_move_70 (lv_at hl 5 rfl) ?_
                refine lv_iload hx hb d_MD_move_72 (lv_at hl 6 rfl) ?_
                obtain ⟨r49, g_r49, h⟩ := ob_some h
                refine cl_MD_148 (rest := [.int r46, .int s0, .ref (ad 0)]) C (hml.trans hl.1.symm) hW.1 g_r49 ⟨Nat.le_of_ble_eq_true rfl, Nat.le_of_ble_eq_true rfl⟩ (Nat.le_of_ble_eq_true rfl) d_MD_move_74 ⟨Nat.zero_le _, Nat.zero_le _⟩ ?_
                refine lv_if_eq (tgt := 84) hx hb d_MD_move_77 (by decide) (fun c50 => ?_) (fun c50 => ?_)
                · rw [if_pos c50] at h
                  refine lv_iconst (v := 0) hx hb d_MD_move_84 (by decide) ?_
                  have k85 : ∀ (x1 : Int32) (x2 : Int32) (x3 : Int32) (s0 : Int32) (s1 : Int32) (s2 : Int32) (σ : Sg) (h : C_MD_move_85 x1 x2 x3 s0 s1 s2 σ = some out) (H : Heap) (locs : List Loc) (hW : WR G ad cI cZ s σ H locs) (ls : Array Slot) (hl : lv_has ls 7 [(0, .ref (ad 0)), (1, .int x1), (2, .int x2), (3, .int x3)]), W p l e (headSpec wl_MD_move ({ frames := 5, cells := 0, slots := 0, locals := 122 } : Room)).room s m (([.ref (ad 0), .int a1, .int a2, .int a3, .int a4, .int a5] : List Value).toArray) below meth c H locs 0 0 (MQ below (QRi G ad cI cZ out) (([.ref (ad 0), .int a1, .int a2, .int a3, .int a4, .int a5] : List Value).toArray) s 0 0 (AR ad)) (F0 m 85 ls [.int s0, .int s1, .int s2, .ref (ad 0)]) := by
                    intro x1 x2 x3 s0 s1 s2 σ h H locs hW ls hl
                    unfold C_MD_move_85 at h
                    obtain ⟨r59, g_r59, h⟩ := ob_some h
                    refine cl_MD_102 (rest := []) C hD (hml.trans hl.1.symm) hW g_r59 ⟨Nat.le_of_ble_eq_true rfl, Nat.le_of_ble_eq_true rfl⟩ (Nat.le_of_ble_eq_true rfl) d_MD_move_85 ⟨Nat.zero_le _, Nat.zero_le _⟩ (fun H locs hW => ?_)
                    refine lv_if_ne (tgt := 93) hx hb d_MD_move_88 (by decide) (fun c60 => ?_) (fun c60 => ?_)
                    · rw [if_neg c60] at h
                      refine lv_aload_n hx hb d_MD_move_93 rfl (lv_at hl 0 rfl) ?_
                      refine lv_aload_n hx hb d_MD_move_94 rfl (lv_at hl 0 rfl) ?_
                      refine lv_iload_n hx hb d_MD_move_95 rfl (lv_at hl 1 rfl) ?_
                      refine lv_iload_n hx hb d_MD_move_96 rfl (lv_at hl 3 rfl) ?_
                      obtain ⟨r61, g_r61, h⟩ := ob_some h
                      refine cl_MD_130 (rest := [.ref (ad 0)]) C (hml.trans hl.1.symm) hW.1 g_r61 ⟨Nat.le_of_ble_eq_true rfl, Nat.le_of_ble_eq_true rfl⟩ (Nat.le_of_ble_eq_true rfl) d_MD_move_97 ⟨Nat.zero_le _, Nat.zero_le _⟩ ?_
                      refine lv_iload_n hx hb d_MD_move_100 rfl (lv_at hl 2 rfl) ?_
                      refine lv_iload_n hx hb d_MD_move_101 rfl (lv_at hl 3 rfl) ?_
                      obtain ⟨r62, g_r62, h⟩ := ob_some h
                      refine cl_MD_151 (rest := []) C (hml.trans hl.1.symm) hW.1 g_r62 ⟨Nat.le_of_ble_eq_true rfl, Nat.le_of_ble_eq_true rfl⟩ (Nat.le_of_ble_eq_true rfl) d_MD_move_102 ⟨Nat.zero_le _, Nat.zero_le _⟩ ?_
                      refine lv_if_eq (tgt := 110) hx hb d_MD_move_105 (by decide) (fun c63 => ?_) (fun c63 => ?_)
                      · rw [if_pos c63] at h
                        refine lv_aload_n hx hb d_MD_move_110 rfl (lv_at hl 0 rfl) ?_
                        refine lv_iload_n hx hb d_MD_move_111 rfl (lv_at hl 1 rfl) ?_
                        refine lv_iload_n hx hb d_MD_move_112 rfl (lv_at hl 2 rfl) ?_
                        refine lv_iload_n hx hb d_MD_move_113 rfl (lv_at hl 3 rfl) ?_
                        obtain ⟨r64, g_r64, h⟩ := ob_some h
                        refine cl_MD_154 (rest := []) C hD (hml.trans hl.1.symm) hW g_r64 ⟨Nat.le_of_ble_eq_true rfl, Nat.le_of_ble_eq_true rfl⟩ (Nat.le_of_ble_eq_true rfl) d_MD_move_114 ⟨Nat.zero_le _, Nat.zero_le _⟩ (fun H locs hW => ?_)
                        refine lv_if_ne (tgt := 122) hx hb d_MD_move_117 (by decide) (fun c65 => ?_) (fun c65 => ?_)
                        · rw [if_neg c65] at h
                          refine lv_aload_n hx hb d_MD_move_122 rfl (lv_at hl 0 rfl) ?_
                          refine lv_iload_n hx hb d_MD_move_123 rfl (lv_at hl 1 rfl) ?_
                          refine lv_iload_n hx hb d_MD_move_124 rfl (lv_at hl 3 rfl) ?_
                          refine lv_iconst (v := 0) hx hb d_MD_move_125 (by decide) ?_
                          refine lv_iload_n hx hb d_MD_move_126 rfl (lv_at hl 2 rfl) ?_
                          obtain ⟨r66, g_r66, h⟩ := ob_some h
                          refine cl_MD_157 (rest := []) C hD (hml.trans hl.1.symm) hW g_r66 ⟨Nat.le_of_ble_eq_true rfl, Nat.le_of_ble_eq_true rfl⟩ (Nat.le_of_ble_eq_true rfl) d_MD_move_127 ⟨Nat.zero_le _, Nat.zero_le _⟩ (fun H locs hW => ?_)
                          refine lv_iconst (v := 0) hx hb d_MD_move_130 (by decide) ?_
                          exact W.iret hx hb hr (fun t ht _ => qr_i h ht hW) hW.2.2.2 d_MD_move_131
                        · rw [if_pos c65] at h
                          refine lv_iconst (v := 2) hx hb d_MD_move_120 (by decide) ?_
                          exact W.iret hx hb hr (fun t ht _ => qr_i h ht hW) hW.2.2.2 d_MD_move_121
                      · rw [if_neg c63] at h
                        refine lv_iconst (v := 1) hx hb d_MD_move_108 (by decide) ?_
                        exact W.iret hx hb hr (fun t ht _ => qr_i h ht hW) hW.2.2.2 d_MD_move_109
                    · rw [if_pos c60] at h
                      refine lv_iconst (v := 0) hx hb d_MD_move_91 (by decide) ?_
                      exact W.iret hx hb hr (fun t ht _ => qr_i h ht hW) hW.2.2.2 d_MD_move_92
                  exact k85 x1 x2 x3 0 r46 s0 σ h _ _ hW _ (lv_sub hl [1, 2, 3, 4] rfl)
                · rw [if_neg c50] at h
                  refine lv_iconst (v := 1) hx hb d_MD_move_80 (by decide) ?_
                  refine lv_goto (tgt := 85) hx hb d_MD_move_81 (by decide) ?_
                  have k85 : ∀ (x1 : Int32) (x2 : Int32) (x3 : Int32) (s0 : Int32) (s1 : Int32) (s2 : Int32) (σ : Sg) (h : C_MD_move_85 x1 x2 x3 s0 s1 s2 σ = some out) (H : Heap) (locs : List Loc) (hW : WR G ad cI cZ s σ H locs) (ls : Array Slot) (hl : lv_has ls 7 [(0, .ref (ad 0)), (1, .int x1), (2, .int x2), (3, .int x3)]), W p l e (headSpec wl_MD_move ({ frames := 5, cells := 0, slots := 0, locals := 122 } : Room)).room s m (([.ref (ad 0), .int a1, .int a2, .int a3, .int a4, .int a5] : List Value).toArray) below meth c H locs 0 0 (MQ below (QRi G ad cI cZ out) (([.ref (ad 0), .int a1, .int a2, .int a3, .int a4, .int a5] : List Value).toArray) s 0 0 (AR ad)) (F0 m 85 ls [.int s0, .int s1, .int s2, .ref (ad 0)]) := by
                    intro x1 x2 x3 s0 s1 s2 σ h H locs hW ls hl
                    unfold C_MD_move_85 at h
                    obtain ⟨r51, g_r51, h⟩ := ob_some h
                    refine cl_MD_102 (rest := []) C hD (hml.trans hl.1.symm) hW g_r51 ⟨Nat.le_of_ble_eq_true rfl, Nat.le_of_ble_eq_true rfl⟩ (Nat.le_of_ble_eq_true rfl) d_MD_move_85 ⟨Nat.zero_le _, Nat.zero_le _⟩ (fun H locs hW => ?_)
                    refine lv_if_ne (tgt := 93) hx hb d_MD_move_88 (by decide) (fun c52 => ?_) (fun c52 => ?_)
                    · rw [if_neg c52] at h
                      refine lv_aload_n hx hb d_MD_move_93 rfl (lv_at hl 0 rfl) ?_
                      refine lv_aload_n hx hb d_MD_move_94 rfl (lv_at hl 0 rfl) ?_
                      refine lv_iload_n hx hb d_MD_move_95 rfl (lv_at hl 1 rfl) ?_
                      refine lv_iload_n hx hb d_MD_move_96 rfl (lv_at hl 3 rfl) ?_
                      obtain ⟨r53, g_r53, h⟩ := ob_some h
                      refine cl_MD_130 (rest := [.ref (ad 0)]) C (hml.trans hl.1.symm) hW.1 g_r53 ⟨Nat.le_of_ble_eq_true rfl, Nat.le_of_ble_eq_true rfl⟩ (Nat.le_of_ble_eq_true rfl) d_MD_move_97 ⟨Nat.zero_le _, Nat.zero_le _⟩ ?_
                      refine lv_iload_n hx hb d_MD_move_100 rfl (lv_at hl 2 rfl) ?_
                      refine lv_iload_n hx hb d_MD_move_101 rfl (lv_at hl 3 rfl) ?_
                      obtain ⟨r54, g_r54, h⟩ := ob_some h
                      refine cl_MD_151 (rest := []) C (hml.trans hl.1.symm) hW.1 g_r54 ⟨Nat.le_of_ble_eq_true rfl, Nat.le_of_ble_eq_true rfl⟩ (Nat.le_of_ble_eq_true rfl) d_MD_move_102 ⟨Nat.zero_le _, Nat.zero_le _⟩ ?_
                      refine lv_if_eq (tgt := 110) hx hb d_MD_move_105 (by decide) (fun c55 => ?_) (fun c55 => ?_)
                      · rw [if_pos c55] at h
                        refine lv_aload_n hx hb d_MD_move_110 rfl (lv_at hl 0 rfl) ?_
                        refine lv_iload_n hx hb d_MD_move_111 rfl (lv_at hl 1 rfl) ?_
                        refine lv_iload_n hx hb d_MD_move_112 rfl (lv_at hl 2 rfl) ?_
                        refine lv_iload_n hx hb d_MD_move_113 rfl (lv_at hl 3 rfl) ?_
                        obtain ⟨r56, g_r56, h⟩ := ob_some h
                        refine cl_MD_154 (rest := []) C hD (hml.trans hl.1.symm) hW g_r56 ⟨Nat.le_of_ble_eq_true rfl, Nat.le_of_ble_eq_true rfl⟩ (Nat.le_of_ble_eq_true rfl) d_MD_move_114 ⟨Nat.zero_le _, Nat.zero_le _⟩ (fun H locs hW => ?_)
                        refine lv_if_ne (tgt := 122) hx hb d_MD_move_117 (by decide) (fun c57 => ?_) (fun c57 => ?_)
                        · rw [if_neg c57] at h
                          refine lv_aload_n hx hb d_MD_move_122 rfl (lv_at hl 0 rfl) ?_
                          refine lv_iload_n hx hb d_MD_move_123 rfl (lv_at hl 1 rfl) ?_
                          refine lv_iload_n hx hb d_MD_move_124 rfl (lv_at hl 3 rfl) ?_
                          refine lv_iconst (v := 0) hx hb d_MD_move_125 (by decide) ?_
                          refine lv_iload_n hx hb d_MD_move_126 rfl (lv_at hl 2 rfl) ?_
                          obtain ⟨r58, g_r58, h⟩ := ob_some h
                          refine cl_MD_157 (rest := []) C hD (hml.trans hl.1.symm) hW g_r58 ⟨Nat.le_of_ble_eq_true rfl, Nat.le_of_ble_eq_true rfl⟩ (Nat.le_of_ble_eq_true rfl) d_MD_move_127 ⟨Nat.zero_le _, Nat.zero_le _⟩ (fun H locs hW => ?_)
                          refine lv_iconst (v := 0) hx hb d_MD_move_130 (by decide) ?_
                          exact W.iret hx hb hr (fun t ht _ => qr_i h ht hW) hW.2.2.2 d_MD_move_131
                        · rw [if_pos c57] at h
                          refine lv_iconst (v := 2) hx hb d_MD_move_120 (by decide) ?_
                          exact W.iret hx hb hr (fun t ht _ => qr_i h ht hW) hW.2.2.2 d_MD_move_121
                      · rw [if_neg c55] at h
                        refine lv_iconst (v := 1) hx hb d_MD_move_108 (by decide) ?_
                        exact W.iret hx hb hr (fun t ht _ => qr_i h ht hW) hW.2.2.2 d_MD_move_109
                    · rw [if_pos c52] at h
                      refine lv_iconst (v := 0) hx hb d_MD_move_91 (by decide) ?_
                      exact W.iret hx hb hr (fun t ht _ => qr_i h ht hW) hW.2.2.2 d_MD_move_92
                  exact k85 x1 x2 x3 1 r46 s0 σ h _ _ hW _ (lv_sub hl [1, 2, 3, 4] rfl)
          exact k37 a1 a2 a3 a4 a5 0 σ h _ _ hW _ (lv_sub hl [0, 1, 2, 3, 4, 5] rfl)
        · rw [if_neg c8] at h
          refine lv_iconst (v := 1) hx hb d_MD_move_32 (by decide) ?_
          refine lv_goto (tgt := 37) hx hb d_MD_move_33 (by decide) ?_
          have k37 : ∀ (x1 : Int32) (x2 : Int32) (x3 : Int32) (x4 : Int32) (x5 : Int32) (s0 : Int32) (σ : Sg) (h : C_MD_move_37 x1 x2 x3 x4 x5 s0 σ = some out) (H : Heap) (locs : List Loc) (hW : WR G ad cI cZ s σ H locs) (ls : Array Slot) (hl : lv_has ls 7 [(0, .ref (ad 0)), (1, .int x1), (2, .int x2), (3, .int x3), (4, .int x4), (5, .int x5)]), W p l e (headSpec wl_MD_move ({ frames := 5, cells := 0, slots := 0, locals := 122 } : Room)).room s m (([.ref (ad 0), .int a1, .int a2, .int a3, .int a4, .int a5] : List Value).toArray) below meth c H locs 0 0 (MQ below (QRi G ad cI cZ out) (([.ref (ad 0), .int a1, .int a2, .int a3, .int a4, .int a5] : List Value).toArray) s 0 0 (AR ad)) (F0 m 37 ls [.int s0]) := by
            intro x1 x2 x3 x4 x5 s0 σ h H locs hW ls hl
            unfold C_MD_move_37 at h
            refine lv_istore (lv' := [(6, .int s0), (0, .ref (ad 0)), (1, .int x1), (2, .int x2), (3, .int x3), (4, .int x4), (5, .int x5)]) hx hb d_MD_move_37 hl (by decide) rfl (fun ls hl => ?_)
            refine lv_aload_n hx hb d_MD_move_39 rfl (lv_at hl 1 rfl) ?_
            refine lv_iload hx hb d_MD_move_40 (lv_at hl 0 rfl) ?_
            refine lv_iload_n hx hb d_MD_move_42 rfl (lv_at hl 4 rfl) ?_
            refine lv_aload_n hx hb d_MD_move_43 rfl (lv_at hl 1 rfl) ?_
            refine gf_MD_145 C hW.1 d_MD_move_44 ?_
            refine lv_ldc (v := 1000000) hx hb hown (hts _ w_724) d_MD_move_47 ?_
            obtain ⟨r9, g_r9, h⟩ := ob_some h
            refine cl_MD_98 (rest := [.int s0, .ref (ad 0)]) C (hml.trans hl.1.symm) hW.1 g_r9 ⟨Nat.le_of_ble_eq_true rfl, Nat.le_of_ble_eq_true rfl⟩ (Nat.le_of_ble_eq_true rfl) d_MD_move_49 ⟨Nat.zero_le _, Nat.zero_le _⟩ ?_
            refine lv_iload hx hb d_MD_move_52 (lv_at hl 0 rfl) ?_
            refine lv_if_eq (tgt := 84) hx hb d_MD_move_54 (by decide) (fun c10 => ?_) (fun c10 => ?_)
            · rw [if_pos c10] at h
              refine lv_iconst (v := 0) hx hb d_MD_move_84 (by decide) ?_
              have k85 : ∀ (x1 : Int32) (x2 : Int32) (x3 : Int32) (s0 : Int32) (s1 : Int32) (s2 : Int32) (σ : Sg) (h : C_MD_move_85 x1 x2 x3 s0 s1 s2 σ = some out) (H : Heap) (locs : List Loc) (hW : WR G ad cI cZ s σ H locs) (ls : Array Slot) (hl : lv_has ls 7 [(0, .ref (ad 0)), (1, .int x1), (2, .int x2), (3, .int x3)]), W p l e (headSpec wl_MD_move ({ frames := 5, cells := 0, slots := 0, locals := 122 } : Room)).room s m (([.ref (ad 0), .int a1, .int a2, .int a3, .int a4, .int a5] : List Value).toArray) below meth c H locs 0 0 (MQ below (QRi G ad cI cZ out) (([.ref (ad 0), .int a1, .int a2, .int a3, .int a4, .int a5] : List Value).toArray) s 0 0 (AR ad)) (F0 m 85 ls [.int s0, .int s1, .int s2, .ref (ad 0)]) := by
                intro x1 x2 x3 s0 s1 s2 σ h H locs hW ls hl
                unfold C_MD_move_85 at h
                obtain ⟨r38, g_r38, h⟩ := ob_some h
                refine cl_MD_102 (rest := []) C hD (hml.trans hl.1.symm) hW g_r38 ⟨Nat.le_of_ble_eq_true rfl, Nat.le_of_ble_eq_true rfl⟩ (Nat.le_of_ble_eq_true rfl) d_MD_move_85 ⟨Nat.zero_le _, Nat.zero_le _⟩ (fun H locs hW => ?_)
                refine lv_if_ne (tgt := 93) hx hb d_MD_move_88 (by decide) (fun c39 => ?_) (fun c39 => ?_)
                · rw [if_neg c39] at h
                  refine lv_aload_n hx hb d_MD_move_93 rfl (lv_at hl 0 rfl) ?_
                  refine lv_aload_n hx hb d_MD_move_94 rfl (lv_at hl 0 rfl) ?_
                  refine lv_iload_n hx hb d_MD_move_95 rfl (lv_at hl 1 rfl) ?_
                  refine lv_iload_n hx hb d_MD_move_96 rfl (lv_at hl 3 rfl) ?_
                  obtain ⟨r40, g_r40, h⟩ := ob_some h
                  refine cl_MD_130 (rest := [.ref (ad 0)]) C (hml.trans hl.1.symm) hW.1 g_r40 ⟨Nat.le_of_ble_eq_true rfl, Nat.le_of_ble_eq_true rfl⟩ (Nat.le_of_ble_eq_true rfl) d_MD_move_97 ⟨Nat.zero_le _, Nat.zero_le _⟩ ?_
                  refine lv_iload_n hx hb d_MD_move_100 rfl (lv_at hl 2 rfl) ?_
                  refine lv_iload_n hx hb d_MD_move_101 rfl (lv_at hl 3 rfl) ?_
                  obtain ⟨r41, g_r41, h⟩ := ob_some h
                  refine cl_MD_151 (rest := []) C (hml.trans hl.1.symm) hW.1 g_r41 ⟨Nat.le_of_ble_eq_true rfl, Nat.le_of_ble_eq_true rfl⟩ (Nat.le_of_ble_eq_true rfl) d_MD_move_102 ⟨Nat.zero_le _, Nat.zero_le _⟩ ?_
                  refine lv_if_eq (tgt := 110) hx hb d_MD_move_105 (by decide) (fun c42 => ?_) (fun c42 => ?_)
                  · rw [if_pos c42] at h
                    refine lv_aload_n hx hb d_MD_move_110 rfl (lv_at hl 0 rfl) ?_
                    refine lv_iload_n hx hb d_MD_move_111 rfl (lv_at hl 1 rfl) ?_
                    refine lv_iload_n hx hb d_MD_move_112 rfl (lv_at hl 2 rfl) ?_
                    refine lv_iload_n hx hb d_MD_move_113 rfl (lv_at hl 3 rfl) ?_
                    obtain ⟨r43, g_r43, h⟩ := ob_some h
                    refine cl_MD_154 (rest := []) C hD (hml.trans hl.1.symm) hW g_r43 ⟨Nat.le_of_ble_eq_true rfl, Nat.le_of_ble_eq_true rfl⟩ (Nat.le_of_ble_eq_true rfl) d_MD_move_114 ⟨Nat.zero_le _, Nat.zero_le _⟩ (fun H locs hW => ?_)
                    refine lv_if_ne (tgt := 122) hx hb d_MD_move_117 (by decide) (fun c44 => ?_) (fun c44 => ?_)
                    · rw [if_neg c44] at h
                      refine lv_aload_n hx hb d_MD_move_122 rfl (lv_at hl 0 rfl) ?_
                      refine lv_iload_n hx hb d_MD_move_123 rfl (lv_at hl 1 rfl) ?_
                      refine lv_iload_n hx hb d_MD_move_124 rfl (lv_at hl 3 rfl) ?_
                      refine lv_iconst (v := 0) hx hb d_MD_move_125 (by decide) ?_
                      refine lv_iload_n hx hb d_MD_move_126 rfl (lv_at hl 2 rfl) ?_
                      obtain ⟨r45, g_r45, h⟩ := ob_some h
                      refine cl_MD_157 (rest := []) C hD (hml.trans hl.1.symm) hW g_r45 ⟨Nat.le_of_ble_eq_true rfl, Nat.le_of_ble_eq_true rfl⟩ (Nat.le_of_ble_eq_true rfl) d_MD_move_127 ⟨Nat.zero_le _, Nat.zero_le _⟩ (fun H locs hW => ?_)
                      refine lv_iconst (v := 0) hx hb d_MD_move_130 (by decide) ?_
                      exact W.iret hx hb hr (fun t ht _ => qr_i h ht hW) hW.2.2.2 d_MD_move_131
                    · rw [if_pos c44] at h
                      refine lv_iconst (v := 2) hx hb d_MD_move_120 (by decide) ?_
                      exact W.iret hx hb hr (fun t ht _ => qr_i h ht hW) hW.2.2.2 d_MD_move_121
                  · rw [if_neg c42] at h
                    refine lv_iconst (v := 1) hx hb d_MD_move_108 (by decide) ?_
                    exact W.iret hx hb hr (fun t ht _ => qr_i h ht hW) hW.2.2.2 d_MD_move_109
                · rw [if_pos c39] at h
                  refine lv_iconst (v := 0) hx hb d_MD_move_91 (by decide) ?_
                  exact W.iret hx hb hr (fun t ht _ => qr_i h ht hW) hW.2.2.2 d_MD_move_92
              exact k85 x1 x2 x3 0 r9 s0 σ h _ _ hW _ (lv_sub hl [1, 2, 3, 4] rfl)
            · rw [if_neg c10] at h
              refine lv_aload_n hx hb d_MD_move_57 rfl (lv_at hl 1 rfl) ?_
              refine gf_MD_32 C hW.1 d_MD_move_58 ?_
              refine lv_iload_n hx hb d_MD_move_61 rfl (lv_at hl 2 rfl) ?_
              obtain ⟨hin, h⟩ := gd_some h
              refine alR_8 C hW.1 hin d_MD_move_62 ?_
              refine lv_bipush (v := 40) hx hb d_MD_move_63 (by decide) ?_
              refine lv_icmp_ge (tgt := 84) hx hb d_MD_move_65 (by decide) (fun c11 => ?_) (fun c11 => ?_)
              · rw [if_pos c11] at h
                refine lv_iconst (v := 0) hx hb d_MD_move_84 (by decide) ?_
                have k85 : ∀ (x1 : Int32) (x2 : Int32) (x3 : Int32) (s0 : Int32) (s1 : Int32) (s2 : Int32) (σ : Sg) (h : C_MD_move_85 x1 x2 x3 s0 s1 s2 σ = some out) (H : Heap) (locs : List Loc) (hW : WR G ad cI cZ s σ H locs) (ls : Array Slot) (hl : lv_has ls 7 [(0, .ref (ad 0)), (1, .int x1), (2, .int x2), (3, .int x3)]), W p l e (headSpec wl_MD_move ({ frames := 5, cells := 0, slots := 0, locals := 122 } : Room)).room s m (([.ref (ad 0), .int a1, .int a2, .int a3, .int a4, .int a5] : List Value).toArray) below meth c H locs 0 0 (MQ below (QRi G ad cI cZ out) (([.ref (ad 0), .int a1, .int a2, .int a3, .int a4, .int a5] : List Value).toArray) s 0 0 (AR ad)) (F0 m 85 ls [.int s0, .int s1, .int s2, .ref (ad 0)]) := by
                  intro x1 x2 x3 s0 s1 s2 σ h H locs hW ls hl
                  unfold C_MD_move_85 at h
                  obtain ⟨r30, g_r30, h⟩ := ob_some h
                  refine cl_MD_102 (rest := []) C hD (hml.trans hl.1.symm) hW g_r30 ⟨Nat.le_of_ble_eq_true rfl, Nat.le_of_ble_eq_true rfl⟩ (Nat.le_of_ble_eq_true rfl) d_MD_move_85 ⟨Nat.zero_le _, Nat.zero_le _⟩ (fun H locs hW => ?_)
                  refine lv_if_ne (tgt := 93) hx hb d_MD_move_88 (by decide) (fun c31 => ?_) (fun c31 => ?_)
                  · rw [if_neg c31] at h
                    refine lv_aload_n hx hb d_MD_move_93 rfl (lv_at hl 0 rfl) ?_
                    refine lv_aload_n hx hb d_MD_move_94 rfl (lv_at hl 0 rfl) ?_
                    refine lv_iload_n hx hb d_MD_move_95 rfl (lv_at hl 1 rfl) ?_
                    refine lv_iload_n hx hb d_MD_move_96 rfl (lv_at hl 3 rfl) ?_
                    obtain ⟨r32, g_r32, h⟩ := ob_some h
                    refine cl_MD_130 (rest := [.ref (ad 0)]) C (hml.trans hl.1.symm) hW.1 g_r32 ⟨Nat.le_of_ble_eq_true rfl, Nat.le_of_ble_eq_true rfl⟩ (Nat.le_of_ble_eq_true rfl) d_MD_move_97 ⟨Nat.zero_le _, Nat.zero_le _⟩ ?_
                    refine lv_iload_n hx hb d_MD_move_100 rfl (lv_at hl 2 rfl) ?_
                    refine lv_iload_n hx hb d_MD_move_101 rfl (lv_at hl 3 rfl) ?_
                    obtain ⟨r33, g_r33, h⟩ := ob_some h
                    refine cl_MD_151 (rest := []) C (hml.trans hl.1.symm) hW.1 g_r33 ⟨Nat.le_of_ble_eq_true rfl, Nat.le_of_ble_eq_true rfl⟩ (Nat.le_of_ble_eq_true rfl) d_MD_move_102 ⟨Nat.zero_le _, Nat.zero_le _⟩ ?_
                    refine lv_if_eq (tgt := 110) hx hb d_MD_move_105 (by decide) (fun c34 => ?_) (fun c34 => ?_)
                    · rw [if_pos c34] at h
                      refine lv_aload_n hx hb d_MD_move_110 rfl (lv_at hl 0 rfl) ?_
                      refine lv_iload_n hx hb d_MD_move_111 rfl (lv_at hl 1 rfl) ?_
                      refine lv_iload_n hx hb d_MD_move_112 rfl (lv_at hl 2 rfl) ?_
                      refine lv_iload_n hx hb d_MD_move_113 rfl (lv_at hl 3 rfl) ?_
                      obtain ⟨r35, g_r35, h⟩ := ob_some h
                      refine cl_MD_154 (rest := []) C hD (hml.trans hl.1.symm) hW g_r35 ⟨Nat.le_of_ble_eq_true rfl, Nat.le_of_ble_eq_true rfl⟩ (Nat.le_of_ble_eq_true rfl) d_MD_move_114 ⟨Nat.zero_le _, Nat.zero_le _⟩ (fun H locs hW => ?_)
                      refine lv_if_ne (tgt := 122) hx hb d_MD_move_117 (by decide) (fun c36 => ?_) (fun c36 => ?_)
                      · rw [if_neg c36] at h
                        refine lv_aload_n hx hb d_MD_move_122 rfl (lv_at hl 0 rfl) ?_
                        refine lv_iload_n hx hb d_MD_move_123 rfl (lv_at hl 1 rfl) ?_
                        refine lv_iload_n hx hb d_MD_move_124 rfl (lv_at hl 3 rfl) ?_
                        refine lv_iconst (v := 0) hx hb d_MD_move_125 (by decide) ?_
                        refine lv_iload_n hx hb d_MD_move_126 rfl (lv_at hl 2 rfl) ?_
                        obtain ⟨r37, g_r37, h⟩ := ob_some h
                        refine cl_MD_157 (rest := []) C hD (hml.trans hl.1.symm) hW g_r37 ⟨Nat.le_of_ble_eq_true rfl, Nat.le_of_ble_eq_true rfl⟩ (Nat.le_of_ble_eq_true rfl) d_MD_move_127 ⟨Nat.zero_le _, Nat.zero_le _⟩ (fun H locs hW => ?_)
                        refine lv_iconst (v := 0) hx hb d_MD_move_130 (by decide) ?_
                        exact W.iret hx hb hr (fun t ht _ => qr_i h ht hW) hW.2.2.2 d_MD_move_131
                      · rw [if_pos c36] at h
                        refine lv_iconst (v := 2) hx hb d_MD_move_120 (by decide) ?_
                        exact W.iret hx hb hr (fun t ht _ => qr_i h ht hW) hW.2.2.2 d_MD_move_121
                    · rw [if_neg c34] at h
                      refine lv_iconst (v := 1) hx hb d_MD_move_108 (by decide) ?_
                      exact W.iret hx hb hr (fun t ht _ => qr_i h ht hW) hW.2.2.2 d_MD_move_109
                  · rw [if_pos c31] at h
                    refine lv_iconst (v := 0) hx hb d_MD_move_91 (by decide) ?_
                    exact W.iret hx hb hr (fun t ht _ => qr_i h ht hW) hW.2.2.2 d_MD_move_92
                exact k85 x1 x2 x3 0 r9 s0 σ h _ _ hW _ (lv_sub hl [1, 2, 3, 4] rfl)
              · rw [if_neg c11] at h
                refine lv_aload_n hx hb d_MD_move_68 rfl (lv_at hl 1 rfl) ?_
                refine lv_iload_n hx hb d_MD_move_69 rfl (lv_at hl 2 rfl) ?_
                refine lv_iload hx hb d_MD_move_70 (lv_at hl 5 rfl) ?_
                refine lv_iload hx hb d_MD_move_72 (lv_at hl 6 rfl) ?_
                obtain ⟨r12, g_r12, h⟩ := ob_some h
                refine cl_MD_148 (rest := [.int r9, .int s0, .ref (ad 0)]) C (hml.trans hl.1.symm) hW.1 g_r12 ⟨Nat.le_of_ble_eq_true rfl, Nat.le_of_ble_eq_true rfl⟩ (Nat.le_of_ble_eq_true rfl) d_MD_move_74 ⟨Nat.zero_le _, Nat.zero_le _⟩ ?_
                refine lv_if_eq (tgt := 84) hx hb d_MD_move_77 (by decide) (fun c13 => ?_) (fun c13 => ?_)
                · rw [if_pos c13] at h
                  refine lv_iconst (v := 0) hx hb d_MD_move_84 (by decide) ?_
                  have k85 : ∀ (x1 : Int32) (x2 : Int32) (x3 : Int32) (s0 : Int32) (s1 : Int32) (s2 : Int32) (σ : Sg) (h : C_MD_move_85 x1 x2 x3 s0 s1 s2 σ = some out) (H : Heap) (locs : List Loc) (hW : WR G ad cI cZ s σ H locs) (ls : Array Slot) (hl : lv_has ls 7 [(0, .ref (ad 0)), (1, .int x1), (2, .int x2), (3, .int x3)]), W p l e (headSpec wl_MD_move ({ frames := 5, cells := 0, slots := 0, locals := 122 } : Room)).room s m (([.ref (ad 0), .int a1, .int a2, .int a3, .int a4, .int a5] : List Value).toArray) below meth c H locs 0 0 (MQ below (QRi G ad cI cZ out) (([.ref (ad 0), .int a1, .int a2, .int a3, .int a4, .int a5] : List Value).toArray) s 0 0 (AR ad)) (F0 m 85 ls [.int s0, .int s1, .int s2, .ref (ad 0)]) := by
                    intro x1 x2 x3 s0 s1 s2 σ h H locs hW ls hl
                    unfold C_MD_move_85 at h
                    obtain ⟨r22, g_r22, h⟩ := ob_some h
                    refine cl_MD_102 (rest := []) C hD (hml.trans hl.1.symm) hW g_r22 ⟨Nat.le_of_ble_eq_true rfl, Nat.le_of_ble_eq_true rfl⟩ (Nat.le_of_ble_eq_true rfl) d_MD_move_85 ⟨Nat.zero_le _, Nat.zero_le _⟩ (fun H locs hW => ?_)
                    refine lv_if_ne (tgt := 93) hx hb d_MD_move_88 (by decide) (fun c23 => ?_) (fun c23 => ?_)
                    · rw [if_neg c23] at h
                      refine lv_aload_n hx hb d_MD_move_93 rfl (lv_at hl 0 rfl) ?_
                      refine lv_aload_n hx hb d_MD_move_94 rfl (lv_at hl 0 rfl) ?_
                      refine lv_iload_n hx hb d_MD_move_95 rfl (lv_at hl 1 rfl) ?_
                      refine lv_iload_n hx hb d_MD_move_96 rfl (lv_at hl 3 rfl) ?_
                      obtain ⟨r24, g_r24, h⟩ := ob_some h
                      refine cl_MD_130 (rest := [.ref (ad 0)]) C (hml.trans hl.1.symm) hW.1 g_r24 ⟨Nat.le_of_ble_eq_true rfl, Nat.le_of_ble_eq_true rfl⟩ (Nat.le_of_ble_eq_true rfl) d_MD_move_97 ⟨Nat.zero_le _, Nat.zero_le _⟩ ?_
                      refine lv_iload_n hx hb d_MD_move_100 rfl (lv_at hl 2 rfl) ?_
                      refine lv_iload_n hx hb d_MD_move_101 rfl (lv_at hl 3 rfl) ?_
                      obtain ⟨r25, g_r25, h⟩ := ob_some h
                      refine cl_MD_151 (rest := []) C (hml.trans hl.1.symm) hW.1 g_r25 ⟨Nat.le_of_ble_eq_true rfl, Nat.le_of_ble_eq_true rfl⟩ (Nat.le_of_ble_eq_true rfl) d_MD_move_102 ⟨Nat.zero_le _, Nat.zero_le _⟩ ?_
                      refine lv_if_eq (tgt := 110) hx hb d_MD_move_105 (by decide) (fun c26 => ?_) (fun c26 => ?_)
                      · rw [if_pos c26] at h
                        refine lv_aload_n hx hb d_MD_move_110 rfl (lv_at hl 0 rfl) ?_
                        refine lv_iload_n hx hb d_MD_move_111 rfl (lv_at hl 1 rfl) ?_
                        refine lv_iload_n hx hb d_MD_move_112 rfl (lv_at hl 2 rfl) ?_
                        refine lv_iload_n hx hb d_MD_move_113 rfl (lv_at hl 3 rfl) ?_
                        obtain ⟨r27, g_r27, h⟩ := ob_some h
                        refine cl_MD_154 (rest := []) C hD (hml.trans hl.1.symm) hW g_r27 ⟨Nat.le_of_ble_eq_true rfl, Nat.le_of_ble_eq_true rfl⟩ (Nat.le_of_ble_eq_true rfl) d_MD_move_114 ⟨Nat.zero_le _, Nat.zero_le _⟩ (fun H locs hW => ?_)
                        refine lv_if_ne (tgt := 122) hx hb d_MD_move_117 (by decide) (fun c28 => ?_) (fun c28 => ?_)
                        · rw [if_neg c28] at h
                          refine lv_aload_n hx hb d_MD_move_122 rfl (lv_at hl 0 rfl) ?_
                          refine lv_iload_n hx hb d_MD_move_123 rfl (lv_at hl 1 rfl) ?_
                          refine lv_iload_n hx hb d_MD_move_124 rfl (lv_at hl 3 rfl) ?_
                          refine lv_iconst (v := 0) hx hb d_MD_move_125 (by decide) ?_
                          refine lv_iload_n hx hb d_MD_move_126 rfl (lv_at hl 2 rfl) ?_
                          obtain ⟨r29, g_r29, h⟩ := ob_some h
                          refine cl_MD_157 (rest := []) C hD (hml.trans hl.1.symm) hW g_r29 ⟨Nat.le_of_ble_eq_true rfl, Nat.le_of_ble_eq_true rfl⟩ (Nat.le_of_ble_eq_true rfl) d_MD_move_127 ⟨Nat.zero_le _, Nat.zero_le _⟩ (fun H locs hW => ?_)
                          refine lv_iconst (v := 0) hx hb d_MD_move_130 (by decide) ?_
                          exact W.iret hx hb hr (fun t ht _ => qr_i h ht hW) hW.2.2.2 d_MD_move_131
                        · rw [if_pos c28] at h
                          refine lv_iconst (v := 2) hx hb d_MD_move_120 (by decide) ?_
                          exact W.iret hx hb hr (fun t ht _ => qr_i h ht hW) hW.2.2.2 d_MD_move_121
                      · rw [if_neg c26] at h
                        refine lv_iconst (v := 1) hx hb d_MD_move_108 (by decide) ?_
                        exact W.iret hx hb hr (fun t ht _ => qr_i h ht hW) hW.2.2.2 d_MD_move_109
                    · rw [if_pos c23] at h
                      refine lv_iconst (v := 0) hx hb d_MD_move_91 (by decide) ?_
                      exact W.iret hx hb hr (fun t ht _ => qr_i h ht hW) hW.2.2.2 d_MD_move_92
                  exact k85 x1 x2 x3 0 r9 s0 σ h _ _ hW _ (lv_sub hl [1, 2, 3, 4] rfl)
                · rw [if_neg c13] at h
                  refine lv_iconst (v := 1) hx hb d_MD_move_80 (by decide) ?_
                  refine lv_goto (tgt := 85) hx hb d_MD_move_81 (by decide) ?_
                  have k85 : ∀ (x1 : Int32) (x2 : Int32) (x3 : Int32) (s0 : Int32) (s1 : Int32) (s2 : Int32) (σ : Sg) (h : C_MD_move_85 x1 x2 x3 s0 s1 s2 σ = some out) (H : Heap) (locs : List Loc) (hW : WR G ad cI cZ s σ H locs) (ls : Array Slot) (hl : lv_has ls 7 [(0, .ref (ad 0)), (1, .int x1), (2, .int x2), (3, .int x3)]), W p l e (headSpec wl_MD_move ({ frames := 5, cells := 0, slots := 0, locals := 122 } : Room)).room s m (([.ref (ad 0), .int a1, .int a2, .int a3, .int a4, .int a5] : List Value).toArray) below meth c H locs 0 0 (MQ below (QRi G ad cI cZ out) (([.ref (ad 0), .int a1, .int a2, .int a3, .int a4, .int a5] : List Value).toArray) s 0 0 (AR ad)) (F0 m 85 ls [.int s0, .int s1, .int s2, .ref (ad 0)]) := by
                    intro x1 x2 x3 s0 s1 s2 σ h H locs hW ls hl
                    unfold C_MD_move_85 at h
                    obtain ⟨r14, g_r14, h⟩ := ob_some h
                    refine cl_MD_102 (rest := []) C hD (hml.trans hl.1.symm) hW g_r14 ⟨Nat.le_of_ble_eq_true rfl, Nat.le_of_ble_eq_true rfl⟩ (Nat.le_of_ble_eq_true rfl) d_MD_move_85 ⟨Nat.zero_le _, Nat.zero_le _⟩ (fun H locs hW => ?_)
                    refine lv_if_ne (tgt := 93) hx hb d_MD_move_88 (by decide) (fun c15 => ?_) (fun c15 => ?_)
                    · rw [if_neg c15] at h
                      refine lv_aload_n hx hb d_MD_move_93 rfl (lv_at hl 0 rfl) ?_
                      refine lv_aload_n hx hb d_MD_move_94 rfl (lv_at hl 0 rfl) ?_
                      refine lv_iload_n hx hb d_MD_move_95 rfl (lv_at hl 1 rfl) ?_
                      refine lv_iload_n hx hb d_MD_move_96 rfl (lv_at hl 3 rfl) ?_
                      obtain ⟨r16, g_r16, h⟩ := ob_some h
                      refine cl_MD_130 (rest := [.ref (ad 0)]) C (hml.trans hl.1.symm) hW.1 g_r16 ⟨Nat.le_of_ble_eq_true rfl, Nat.le_of_ble_eq_true rfl⟩ (Nat.le_of_ble_eq_true rfl) d_MD_move_97 ⟨Nat.zero_le _, Nat.zero_le _⟩ ?_
                      refine lv_iload_n hx hb d_MD_move_100 rfl (lv_at hl 2 rfl) ?_
                      refine lv_iload_n hx hb d_MD_move_101 rfl (lv_at hl 3 rfl) ?_
                      obtain ⟨r17, g_r17, h⟩ := ob_some h
                      refine cl_MD_151 (rest := []) C (hml.trans hl.1.symm) hW.1 g_r17 ⟨Nat.le_of_ble_eq_true rfl, Nat.le_of_ble_eq_true rfl⟩ (Nat.le_of_ble_eq_true rfl) d_MD_move_102 ⟨Nat.zero_le _, Nat.zero_le _⟩ ?_
                      refine lv_if_eq (tgt := 110) hx hb d_MD_move_105 (by decide) (fun c18 => ?_) (fun c18 => ?_)
                      · rw [if_pos c18] at h
                        refine lv_aload_n hx hb d_MD_move_110 rfl (lv_at hl 0 rfl) ?_
                        refine lv_iload_n hx hb d_MD_move_111 rfl (lv_at hl 1 rfl) ?_
                        refine lv_iload_n hx hb d_MD_move_112 rfl (lv_at hl 2 rfl) ?_
                        refine lv_iload_n hx hb d_MD_move_113 rfl (lv_at hl 3 rfl) ?_
                        obtain ⟨r19, g_r19, h⟩ := ob_some h
                        refine cl_MD_154 (rest := []) C hD (hml.trans hl.1.symm) hW g_r19 ⟨Nat.le_of_ble_eq_true rfl, Nat.le_of_ble_eq_true rfl⟩ (Nat.le_of_ble_eq_true rfl) d_MD_move_114 ⟨Nat.zero_le _, Nat.zero_le _⟩ (fun H locs hW => ?_)
                        refine lv_if_ne (tgt := 122) hx hb d_MD_move_117 (by decide) (fun c20 => ?_) (fun c20 => ?_)
                        · rw [if_neg c20] at h
                          refine lv_aload_n hx hb d_MD_move_122 rfl (lv_at hl 0 rfl) ?_
                          refine lv_iload_n hx hb d_MD_move_123 rfl (lv_at hl 1 rfl) ?_
                          refine lv_iload_n hx hb d_MD_move_124 rfl (lv_at hl 3 rfl) ?_
                          refine lv_iconst (v := 0) hx hb d_MD_move_125 (by decide) ?_
                          refine lv_iload_n hx hb d_MD_move_126 rfl (lv_at hl 2 rfl) ?_
                          obtain ⟨r21, g_r21, h⟩ := ob_some h
                          refine cl_MD_157 (rest := []) C hD (hml.trans hl.1.symm) hW g_r21 ⟨Nat.le_of_ble_eq_true rfl, Nat.le_of_ble_eq_true rfl⟩ (Nat.le_of_ble_eq_true rfl) d_MD_move_127 ⟨Nat.zero_le _, Nat.zero_le _⟩ (fun H locs hW => ?_)
                          refine lv_iconst (v := 0) hx hb d_MD_move_130 (by decide) ?_
                          exact W.iret hx hb hr (fun t ht _ => qr_i h ht hW) hW.2.2.2 d_MD_move_131
                        · rw [if_pos c20] at h
                          refine lv_iconst (v := 2) hx hb d_MD_move_120 (by decide) ?_
                          exact W.iret hx hb hr (fun t ht _ => qr_i h ht hW) hW.2.2.2 d_MD_move_121
                      · rw [if_neg c18] at h
                        refine lv_iconst (v := 1) hx hb d_MD_move_108 (by decide) ?_
                        exact W.iret hx hb hr (fun t ht _ => qr_i h ht hW) hW.2.2.2 d_MD_move_109
                    · rw [if_pos c15] at h
                      refine lv_iconst (v := 0) hx hb d_MD_move_91 (by decide) ?_
                      exact W.iret hx hb hr (fun t ht _ => qr_i h ht hW) hW.2.2.2 d_MD_move_92
                  exact k85 x1 x2 x3 1 r9 s0 σ h _ _ hW _ (lv_sub hl [1, 2, 3, 4] rfl)
          exact k37 a1 a2 a3 a4 a5 1 σ h _ _ hW _ (lv_sub hl [0, 1, 2, 3, 4, 5] rfl)
