abbrev wl_MD_thrown : List Cond := .code ⟨"PlaceMovesModel", "thrown", "()I"⟩ prog_9_method_2_code 1 (some FieldType.int) :: WG
set_option maxHeartbeats 4000000 in
set_option maxRecDepth 100000 in
theorem c_MD_thrown (l : Launch) (G : va_G) (ad : Nat → Nat) (cI cZ : ClassId) (σ : Sg)  (out : Int32) (h : f_MD_thrown σ  = some out) : Met l ⟨"PlaceMovesModel", "thrown", "()I"⟩ wl_MD_thrown ({ frames := 0, cells := 0, slots := 0, locals := 0 } : Room) (PcR G ad cI cZ σ [.ref (ad 0)]) (vp_Si (fun r => r = out)) 0 0 (fun _ => False) := by
  refine Met.ofW (cc := prog_9_method_2_code) (maxL := 1) (ret := (some FieldType.int)) (by decide) rfl ?_
  intro p e s m args below meth c s₁ B hml hv
  obtain ⟨rfl, hP, hK⟩ := hv
  have hx := B.exec
  have hb := B.bytes
  have hr := B.returns
  have hts0 := atoms_spec (ws := wl_MD_thrown) B.pre
  have hts : ∀ w ∈ WG, w.before _ s = true := fun w hw => hts0 w (List.mem_cons_of_mem _ hw)
  have hown : s.vm.findClass "PlaceMovesModel" = some m.cls := findClass_of_methodNamed B.named
  have hlocks := B.notSynchronized
  have C : CX "PlaceMovesModel" prog_9_method_2_code p s m _ c G cI cZ := ⟨hx, hb, hown, hts, hK⟩
  have hl := lv_entry ([.ref (ad 0)]) (n := 1) (Nat.le_of_ble_eq_true rfl)
  rw [lg_entry_eq]
  generalize (lg_sl ([.ref (ad 0)]) ++ List.replicate (1 - (lg_sl ([.ref (ad 0)])).length) Slot.unset).toArray = ls at hl ⊢
  have hl : lv_has ls 1 [(0, .ref (ad 0))] := hl
  unfold f_MD_thrown at h
  refine lv_aload_n hx hb d_MD_thrown_0 rfl (lv_at hl 0 rfl) ?_
  refine gf_MD_84 C hP d_MD_thrown_1 ?_
  exact W.iret hx hb hr (fun t ht _ => ⟨_, rfl, Option.some.inj h, ht⟩) (fun _ hq => nomatch hq) d_MD_thrown_4
abbrev wl_MD_goes : List Cond := .code ⟨"PlaceMovesModel", "goes", "(ZZZ)Z"⟩ prog_9_method_3_code 4 (some FieldType.boolean) :: WG
set_option maxHeartbeats 4000000 in
set_option maxRecDepth 100000 in
theorem c_MD_goes (l : Launch) (G : va_G) (ad : Nat → Nat) (cI cZ : ClassId) (hD : DR ad) (σ : Sg) (a1 : Int32) (a2 : Int32) (a3 : Int32) (out : Int32 × Sg) (h : f_MD_goes σ a1 a2 a3 = some out) : Met l ⟨"PlaceMovesModel", "goes", "(ZZZ)Z"⟩ wl_MD_goes ({ frames := 0, cells := 0, slots := 0, locals := 0 } : Room) (PcR G ad cI cZ σ [.ref (ad 0), .int a1, .int a2, .int a3]) (QRi G ad cI cZ out) 0 0 (AR ad) := by
  refine Met.ofW (cc := prog_9_method_3_code) (maxL := 4) (ret := (some FieldType.boolean)) (by decide) rfl ?_
  intro p e s m args below meth c s₁ B hml hv
  obtain ⟨rfl, hP, hK⟩ := hv
  have hx := B.exec
  have hb := B.bytes
  have hr := B.returns
  have hts0 := atoms_spec (ws := wl_MD_goes) B.pre
  have hts : ∀ w ∈ WG, w.before _ s = true := fun w hw => hts0 w (List.mem_cons_of_mem _ hw)
  have hown : s.vm.findClass "PlaceMovesModel" = some m.cls := findClass_of_methodNamed B.named
  have hlocks := B.notSynchronized
  have C : CX "PlaceMovesModel" prog_9_method_3_code p s m _ c G cI cZ := ⟨hx, hb, hown, hts, hK⟩
  have hl := lv_entry ([.ref (ad 0), .int a1, .int a2, .int a3]) (n := 4) (Nat.le_of_ble_eq_true rfl)
  rw [lg_entry_eq]
  generalize (lg_sl ([.ref (ad 0), .int a1, .int a2, .int a3]) ++ List.replicate (4 - (lg_sl ([.ref (ad 0), .int a1, .int a2, .int a3])).length) Slot.unset).toArray = ls at hl ⊢
  have hl : lv_has ls 4 [(0, .ref (ad 0)), (1, .int a1), (2, .int a2), (3, .int a3)] := hl
  unfold f_MD_goes at h
  have hW : WR G ad cI cZ s σ s.heap [] := ⟨hP, va_S.rf⟩
  refine lv_aload_n hx hb d_MD_goes_0 rfl (lv_at hl 0 rfl) ?_
  refine lv_iload_n hx hb d_MD_goes_1 rfl (lv_at hl 1 rfl) ?_
  refine lv_if_ne (tgt := 9) hx hb d_MD_goes_2 (by decide) (fun c1 => ?_) (fun c1 => ?_)
  · rw [if_neg c1] at h
    refine lv_iload_n hx hb d_MD_goes_9 rfl (lv_at hl 2 rfl) ?_
    refine lv_if_ne (tgt := 17) hx hb d_MD_goes_10 (by decide) (fun c4 => ?_) (fun c4 => ?_)
    · rw [if_neg c4] at h
      refine lv_iload_n hx hb d_MD_goes_17 rfl (lv_at hl 3 rfl) ?_
      refine lv_if_ne (tgt := 25) hx hb d_MD_goes_18 (by decide) (fun c7 => ?_) (fun c7 => ?_)
      · rw [if_neg c7] at h
        refine lv_iconst (v := 0) hx hb d_MD_goes_25 (by decide) ?_
        refine pf_MD_84 C hD hW d_MD_goes_26 (fun H locs hW => ?_)
        obtain ⟨σ10, e_σ10, h⟩ := lt1_some h
        rw [← e_σ10] at hW
        refine lv_aload_n hx hb d_MD_goes_29 rfl (lv_at hl 0 rfl) ?_
        refine gf_MD_84 C hW.1 d_MD_goes_30 ?_
        refine lv_if_ne (tgt := 40) hx hb d_MD_goes_33 (by decide) (fun c11 => ?_) (fun c11 => ?_)
        · rw [if_neg c11] at h
          refine lv_iconst (v := 0) hx hb d_MD_goes_40 (by decide) ?_
          exact W.zret hx hb hr rfl (fun t ht _ => qr_i h ht hW) hW.2.2.2 d_MD_goes_41
        · rw [if_pos c11] at h
          refine lv_iconst (v := 1) hx hb d_MD_goes_36 (by decide) ?_
          refine lv_goto (tgt := 41) hx hb d_MD_goes_37 (by decide) ?_
          exact W.zret hx hb hr rfl (fun t ht _ => qr_i h ht hW) hW.2.2.2 d_MD_goes_41
      · rw [if_pos c7] at h
        refine lv_iconst (v := 3) hx hb d_MD_goes_21 (by decide) ?_
        refine lv_goto (tgt := 26) hx hb d_MD_goes_22 (by decide) ?_
        refine pf_MD_84 C hD hW d_MD_goes_26 (fun H locs hW => ?_)
        obtain ⟨σ8, e_σ8, h⟩ := lt1_some h
        rw [← e_σ8] at hW
        refine lv_aload_n hx hb d_MD_goes_29 rfl (lv_at hl 0 rfl) ?_
        refine gf_MD_84 C hW.1 d_MD_goes_30 ?_
        refine lv_if_ne (tgt := 40) hx hb d_MD_goes_33 (by decide) (fun c9 => ?_) (fun c9 => ?_)
        · rw [if_neg c9] at h
          refine lv_iconst (v := 0) hx hb d_MD_goes_40 (by decide) ?_
          exact W.zret hx hb hr rfl (fun t ht _ => qr_i h ht hW) hW.2.2.2 d_MD_goes_41
        · rw [if_pos c9] at h
          refine lv_iconst (v := 1) hx hb d_MD_goes_36 (by decide) ?_
          refine lv_goto (tgt := 41) hx hb d_MD_goes_37 (by decide) ?_
          exact W.zret hx hb hr rfl (fun t ht _ => qr_i h ht hW) hW.2.2.2 d_MD_goes_41
    · rw [if_pos c4] at h
      refine lv_iconst (v := 2) hx hb d_MD_goes_13 (by decide) ?_
      refine lv_goto (tgt := 26) hx hb d_MD_goes_14 (by decide) ?_
      refine pf_MD_84 C hD hW d_MD_goes_26 (fun H locs hW => ?_)
      obtain ⟨σ5, e_σ5, h⟩ := lt1_some h
      rw [← e_σ5] at hW
      refine lv_aload_n hx hb d_MD_goes_29 rfl (lv_at hl 0 rfl) ?_
      refine gf_MD_84 C hW.1 d_MD_goes_30 ?_
      refine lv_if_ne (tgt := 40) hx hb d_MD_goes_33 (by decide) (fun c6 => ?_) (fun c6 => ?_)
      · rw [if_neg c6] at h
        refine lv_iconst (v := 0) hx hb d_MD_goes_40 (by decide) ?_
        exact W.zret hx hb hr rfl (fun t ht _ => qr_i h ht hW) hW.2.2.2 d_MD_goes_41
      · rw [if_pos c6] at h
        refine lv_iconst (v := 1) hx hb d_MD_goes_36 (by decide) ?_
        refine lv_goto (tgt := 41) hx hb d_MD_goes_37 (by decide) ?_
        exact W.zret hx hb hr rfl (fun t ht _ => qr_i h ht hW) hW.2.2.2 d_MD_goes_41
  · rw [if_pos c1] at h
    refine lv_iconst (v := 1) hx hb d_MD_goes_5 (by decide) ?_
    refine lv_goto (tgt := 26) hx hb d_MD_goes_6 (by decide) ?_
    refine pf_MD_84 C hD hW d_MD_goes_26 (fun H locs hW => ?_)
    obtain ⟨σ2, e_σ2, h⟩ := lt1_some h
    rw [← e_σ2] at hW
    refine lv_aload_n hx hb d_MD_goes_29 rfl (lv_at hl 0 rfl) ?_
    refine gf_MD_84 C hW.1 d_MD_goes_30 ?_
    refine lv_if_ne (tgt := 40) hx hb d_MD_goes_33 (by decide) (fun c3 => ?_) (fun c3 => ?_)
    · rw [if_neg c3] at h
      refine lv_iconst (v := 0) hx hb d_MD_goes_40 (by decide) ?_
      exact W.zret hx hb hr rfl (fun t ht _ => qr_i h ht hW) hW.2.2.2 d_MD_goes_41
    · rw [if_pos c3] at h
      refine lv_iconst (v := 1) hx hb d_MD_goes_36 (by decide) ?_
      refine lv_goto (tgt := 41) hx hb d_MD_goes_37 (by decide) ?_
      exact W.zret hx hb hr rfl (fun t ht _ => qr_i h ht hW) hW.2.2.2 d_MD_goes_41
section RC
variable {p : Program} {l : Launch} {e : Env} {R : Room} {s : State} {m : MethodId} {args : Array Value} {below : List Frame} {meth : Method} {c : Code} {H : Heap} {locs : List Loc} {cells slots : Nat} {Q : State → Prop}
variable {cc : ByteArray} {pc : Nat} {ls : Array Slot} {rest : List Value} {G : va_G} {ad : Nat → Nat} {cI cZ : ClassId} {σ : Sg} {own : String}
theorem cl_MD_102 (C : CX "PlaceMovesModel" cc p s m args c G cI cZ) (hD : DR ad) (hml : c.maxLocals = ls.size) (hW : WR G ad cI cZ s σ H locs) {x1 : Int32} {x2 : Int32} {x3 : Int32} {r : Int32 × Sg} (hg : f_MD_goes σ x1 x2 x3 = some r) (hR : 0 + 1 ≤ R.frames ∧ 8 + (4 + 11) + 0 ≤ R.locals) (hrest : (rest.map fun v => v.category).sum ≤ 8) (hd : decode cc pc = .ok (.invokevirtual 102, 3)) (hcs : cells + 0 ≤ R.cells ∧ slots + 0 ≤ R.slots) (kk : ∀ (H1 : Heap) (locs1 : List Loc), WR G ad cI cZ s (r.2) H1 locs1 → W p l e R s m args below meth c H1 locs1 cells slots Q (F0 m (pc + 3) ls (.int r.1 :: rest))) : W p l e R s m args below meth c H locs cells slots Q (F0 m pc ls (.int x3 :: .int x2 :: .int x1 :: .ref (ad 0) :: rest)) :=
  va_calli (va_runV (As := [.int x1, .int x2, .int x3]) (rest := rest) ⟨C.1, C.2.1, hml, C.2.2.1, C.2.2.2.1⟩ (c_MD_goes l G ad cI cZ hD σ x1 x2 x3 r hg) (cwV 3 C.2.2.2.1 (wg_V w_713 w_715 ws_18 w_8 w_716) rfl rfl rfl (by decide +kernel) hR) ⟨PcR.blind, va_recv C.2.2.2.2.1 hW.1 (ci := 7) (q0 := 0) rfl rfl, fun U hU hZ => ⟨rfl, by rw [hU]; exact hW.1, C.2.2.2.2.warm hZ⟩⟩ rfl rfl rfl rfl (lv_room hrest) hd hcs) hW.2 (fun _ _ z => z) (fun _ z => z) (fun r' u t H1 locs1 ht _ hp hB _ _ hS => by subst hp; exact kk H1 locs1 ⟨by rw [← ht]; exact hB, hS⟩)
end RC
abbrev wl_MD_within : List Cond := .code ⟨"PlaceMovesModel", "within", "(III)Z"⟩ prog_9_method_4_code 3 (some FieldType.boolean) :: WG
set_option maxHeartbeats 4000000 in
set_option maxRecDepth 100000 in
theorem c_MD_within (l : Launch) (G : va_G) (ad : Nat → Nat) (cI cZ : ClassId) (σ : Sg) (a0 : Int32) (a1 : Int32) (a2 : Int32) (out : Int32) (h : f_MD_within σ a0 a1 a2 = some out) : Met l ⟨"PlaceMovesModel", "within", "(III)Z"⟩ wl_MD_within ({ frames := 0, cells := 0, slots := 0, locals := 0 } : Room) (PcR G ad cI cZ σ [.int a0, .int a1, .int a2]) (vp_Si (fun r => r = out)) 0 0 (fun _ => False) := by
  refine Met.ofW (cc := prog_9_method_4_code) (maxL := 3) (ret := (some FieldType.boolean)) (by decide) rfl ?_
  intro p e s m args below meth c s₁ B hml hv
  obtain ⟨rfl, hP, hK⟩ := hv
  have hx := B.exec
  have hb := B.bytes
  have hr := B.returns
  have hts0 := atoms_spec (ws := wl_MD_within) B.pre
  have hts : ∀ w ∈ WG, w.before _ s = true := fun w hw => hts0 w (List.mem_cons_of_mem _ hw)
  have hown : s.vm.findClass "PlaceMovesModel" = some m.cls := findClass_of_methodNamed B.named
  have hlocks := B.notSynchronized
  have C : CX "PlaceMovesModel" prog_9_method_4_code p s m _ c G cI cZ := ⟨hx, hb, hown, hts, hK⟩
  have hl := lv_entry ([.int a0, .int a1, .int a2]) (n := 3) (Nat.le_of_ble_eq_true rfl)
  rw [lg_entry_eq]
  generalize (lg_sl ([.int a0, .int a1, .int a2]) ++ List.replicate (3 - (lg_sl ([.int a0, .int a1, .int a2])).length) Slot.unset).toArray = ls at hl ⊢
  have hl : lv_has ls 3 [(0, .int a0), (1, .int a1), (2, .int a2)] := hl
  unfold f_MD_within at h
  refine lv_iload_n hx hb d_MD_within_0 rfl (lv_at hl 0 rfl) ?_
  refine lv_iload_n hx hb d_MD_within_1 rfl (lv_at hl 1 rfl) ?_
  refine lv_icmp_lt (tgt := 14) hx hb d_MD_within_2 (by decide) (fun c1 => ?_) (fun c1 => ?_)
  · rw [if_pos c1] at h
    refine lv_iconst (v := 0) hx hb d_MD_within_14 (by decide) ?_
    exact W.zret hx hb hr rfl (fun t ht _ => ⟨_, rfl, Option.some.inj h, ht⟩) (fun _ hq => nomatch hq) d_MD_within_15
  · rw [if_neg c1] at h
    refine lv_iload_n hx hb d_MD_within_5 rfl (lv_at hl 0 rfl) ?_
    refine lv_iload_n hx hb d_MD_within_6 rfl (lv_at hl 2 rfl) ?_
    refine lv_icmp_gt (tgt := 14) hx hb d_MD_within_7 (by decide) (fun c2 => ?_) (fun c2 => ?_)
    · rw [if_pos c2] at h
      refine lv_iconst (v := 0) hx hb d_MD_within_14 (by decide) ?_
      exact W.zret hx hb hr rfl (fun t ht _ => ⟨_, rfl, Option.some.inj h, ht⟩) (fun _ hq => nomatch hq) d_MD_within_15
    · rw [if_neg c2] at h
      refine lv_iconst (v := 1) hx hb d_MD_within_10 (by decide) ?_
      refine lv_goto (tgt := 15) hx hb d_MD_within_11 (by decide) ?_
      exact W.zret hx hb hr rfl (fun t ht _ => ⟨_, rfl, Option.some.inj h, ht⟩) (fun _ hq => nomatch hq) d_MD_within_15
section RC
variable {p : Program} {l : Launch} {e : Env} {R : Room} {s : State} {m : MethodId} {args : Array Value} {below : List Frame} {meth : Method} {c : Code} {H : Heap} {locs : List Loc} {cells slots : Nat} {Q : State → Prop}
variable {cc : ByteArray} {pc : Nat} {ls : Array Slot} {rest : List Value} {G : va_G} {ad : Nat → Nat} {cI cZ : ClassId} {σ : Sg} {own : String}
theorem cl_MD_98 (C : CX "PlaceMovesModel" cc p s m args c G cI cZ) (hml : c.maxLocals = ls.size) (hP : va_P G clX (wR ad cI cZ σ) H) {x0 : Int32} {x1 : Int32} {x2 : Int32} {r : Int32} (hg : f_MD_within σ x0 x1 x2 = some r) (hR : 0 + 1 ≤ R.frames ∧ 8 + (3 + 11) + 0 ≤ R.locals) (hrest : (rest.map fun v => v.category).sum ≤ 8) (hd : decode cc pc = .ok (.invokestatic 98, 3)) (hcs : cells + 0 ≤ R.cells ∧ slots + 0 ≤ R.slots) (kk : W p l e R s m args below meth c H locs cells slots Q (F0 m (pc + 3) ls (.int r :: rest))) : W p l e R s m args below meth c H locs cells slots Q (F0 m pc ls (.int x2 :: .int x1 :: .int x0 :: rest)) :=
  vp_callSi (W.runS (As := [.int x0, .int x1, .int x2]) (rest := rest) ⟨C.1, C.2.1, hml, C.2.2.1, C.2.2.2.1⟩ (c_MD_within l G ad cI cZ σ x0 x1 x2 r hg) (va_cwS 3 C.2.2.2.1 (wg_S w_710 w_711 w_8 w_712) rfl rfl rfl (by decide +kernel) hR) ⟨PcR.blind, fun U hU hW => ⟨rfl, by rw [hU]; exact hP, C.2.2.2.2.warm hW⟩⟩ rfl rfl rfl rfl (lv_room hrest) hd hcs) (fun r' e => by subst e; exact kk)
end RC
abbrev wl_MD_isPlace : List Cond := .code ⟨"PlaceMovesModel", "isPlace", "(I)Z"⟩ prog_9_method_5_code 2 (some FieldType.boolean) :: WG
set_option maxHeartbeats 4000000 in
set_option maxRecDepth 100000 in
theorem c_MD_isPlace (l : Launch) (G : va_G) (ad : Nat → Nat) (cI cZ : ClassId) (σ : Sg) (a1 : Int32) (out : Int32) (h : f_MD_isPlace σ a1 = some out) : Met l ⟨"PlaceMovesModel", "isPlace", "(I)Z"⟩ wl_MD_isPlace ({ frames := 0, cells := 0, slots := 0, locals := 0 } : Room) (PcR G ad cI cZ σ [.ref (ad 0), .int a1]) (vp_Si (fun r => r = out)) 0 0 (fun _ => False) := by
  refine Met.ofW (cc := prog_9_method_5_code) (maxL := 2) (ret := (some FieldType.boolean)) (by decide) rfl ?_
  intro p e s m args below meth c s₁ B hml hv
  obtain ⟨rfl, hP, hK⟩ := hv
  have hx := B.exec
  have hb := B.bytes
  have hr := B.returns
  have hts0 := atoms_spec (ws := wl_MD_isPlace) B.pre
  have hts : ∀ w ∈ WG, w.before _ s = true := fun w hw => hts0 w (List.mem_cons_of_mem _ hw)
  have hown : s.vm.findClass "PlaceMovesModel" = some m.cls := findClass_of_methodNamed B.named
  have hlocks := B.notSynchronized
  have C : CX "PlaceMovesModel" prog_9_method_5_code p s m _ c G cI cZ := ⟨hx, hb, hown, hts, hK⟩
  have hl := lv_entry ([.ref (ad 0), .int a1]) (n := 2) (Nat.le_of_ble_eq_true rfl)
  rw [lg_entry_eq]
  generalize (lg_sl ([.ref (ad 0), .int a1]) ++ List.replicate (2 - (lg_sl ([.ref (ad 0), .int a1])).length) Slot.unset).toArray = ls at hl ⊢
  have hl : lv_has ls 2 [(0, .ref (ad 0)), (1, .int a1)] := hl
  unfold f_MD_isPlace at h
  refine lv_iload_n hx hb d_MD_isPlace_0 rfl (lv_at hl 1 rfl) ?_
  refine lv_if_lt (tgt := 16) hx hb d_MD_isPlace_1 (by decide) (fun c1 => ?_) (fun c1 => ?_)
  · rw [if_pos c1] at h
    refine lv_iconst (v := 0) hx hb d_MD_isPlace_16 (by decide) ?_
    exact W.zret hx hb hr rfl (fun t ht _ => ⟨_, rfl, Option.some.inj h, ht⟩) (fun _ hq => nomatch hq) d_MD_isPlace_17
  · rw [if_neg c1] at h
    refine lv_iload_n hx hb d_MD_isPlace_4 rfl (lv_at hl 1 rfl) ?_
    refine lv_aload_n hx hb d_MD_isPlace_5 rfl (lv_at hl 0 rfl) ?_
    refine gf_MD_87 C hP d_MD_isPlace_6 ?_
    refine lv_icmp_ge (tgt := 16) hx hb d_MD_isPlace_9 (by decide) (fun c2 => ?_) (fun c2 => ?_)
    · rw [if_pos c2] at h
      refine lv_iconst (v := 0) hx hb d_MD_isPlace_16 (by decide) ?_
      exact W.zret hx hb hr rfl (fun t ht _ => ⟨_, rfl, Option.some.inj h, ht⟩) (fun _ hq => nomatch hq) d_MD_isPlace_17
    · rw [if_neg c2] at h
      refine lv_iconst (v := 1) hx hb d_MD_isPlace_12 (by decide) ?_
      refine lv_goto (tgt := 17) hx hb d_MD_isPlace_13 (by decide) ?_
      exact W.zret hx hb hr rfl (fun t ht _ => ⟨_, rfl, Option.some.inj h, ht⟩) (fun _ hq => nomatch hq) d_MD_isPlace_17
section RC
variable {p : Program} {l : Launch} {e : Env} {R : Room} {s : State} {m : MethodId} {args : Array Value} {below : List Frame} {meth : Method} {c : Code} {H : Heap} {locs : List Loc} {cells slots : Nat} {Q : State → Prop}
variable {cc : ByteArray} {pc : Nat} {ls : Array Slot} {rest : List Value} {G : va_G} {ad : Nat → Nat} {cI cZ : ClassId} {σ : Sg} {own : String}
theorem cl_MD_93 (C : CX "PlaceMovesModel" cc p s m args c G cI cZ) (hml : c.maxLocals = ls.size) (hP : va_P G clX (wR ad cI cZ σ) H) {x1 : Int32} {r : Int32} (hg : f_MD_isPlace σ x1 = some r) (hR : 0 + 1 ≤ R.frames ∧ 8 + (2 + 11) + 0 ≤ R.locals) (hrest : (rest.map fun v => v.category).sum ≤ 8) (hd : decode cc pc = .ok (.invokevirtual 93, 3)) (hcs : cells + 0 ≤ R.cells ∧ slots + 0 ≤ R.slots) (kk : W p l e R s m args below meth c H locs cells slots Q (F0 m (pc + 3) ls (.int r :: rest))) : W p l e R s m args below meth c H locs cells slots Q (F0 m pc ls (.int x1 :: .ref (ad 0) :: rest)) :=
  vp_callSi (W.runV (As := [.int x1]) (rest := rest) ⟨C.1, C.2.1, hml, C.2.2.1, C.2.2.2.1⟩ (c_MD_isPlace l G ad cI cZ σ x1 r hg) (cwV 1 C.2.2.2.1 (wg_V w_705 w_707 ws_17 w_8 w_708) rfl rfl rfl (by decide +kernel) hR) ⟨PcR.blind, va_recv C.2.2.2.2.1 hP (ci := 7) (q0 := 0) rfl rfl, fun U hU hW => ⟨rfl, by rw [hU]; exact hP, C.2.2.2.2.warm hW⟩⟩ rfl rfl rfl rfl (lv_room hrest) hd hcs) (fun r' e => by subst e; exact kk)
end RC
abbrev wl_MD_isObject : List Cond := .code ⟨"PlaceMovesModel", "isObject", "(I)Z"⟩ prog_9_method_6_code 2 (some FieldType.boolean) :: WG
set_option maxHeartbeats 4000000 in
set_option maxRecDepth 100000 in
theorem c_MD_isObject (l : Launch) (G : va_G) (ad : Nat → Nat) (cI cZ : ClassId) (σ : Sg) (a1 : Int32) (out : Int32) (h : f_MD_isObject σ a1 = some out) : Met l ⟨"PlaceMovesModel", "isObject", "(I)Z"⟩ wl_MD_isObject ({ frames := 0, cells := 0, slots := 0, locals := 0 } : Room) (PcR G ad cI cZ σ [.ref (ad 0), .int a1]) (vp_Si (fun r => r = out)) 0 0 (fun _ => False) := by
  refine Met.ofW (cc := prog_9_method_6_code) (maxL := 2) (ret := (some FieldType.boolean)) (by decide) rfl ?_
  intro p e s m args below meth c s₁ B hml hv
  obtain ⟨rfl, hP, hK⟩ := hv
  have hx := B.exec
  have hb := B.bytes
  have hr := B.returns
  have hts0 := atoms_spec (ws := wl_MD_isObject) B.pre
  have hts : ∀ w ∈ WG, w.before _ s = true := fun w hw => hts0 w (List.mem_cons_of_mem _ hw)
  have hown : s.vm.findClass "PlaceMovesModel" = some m.cls := findClass_of_methodNamed B.named
  have hlocks := B.notSynchronized
  have C : CX "PlaceMovesModel" prog_9_method_6_code p s m _ c G cI cZ := ⟨hx, hb, hown, hts, hK⟩
  have hl := lv_entry ([.ref (ad 0), .int a1]) (n := 2) (Nat.le_of_ble_eq_true rfl)
  rw [lg_entry_eq]
  generalize (lg_sl ([.ref (ad 0), .int a1]) ++ List.replicate (2 - (lg_sl ([.ref (ad 0), .int a1])).length) Slot.unset).toArray = ls at hl ⊢
  have hl : lv_has ls 2 [(0, .ref (ad 0)), (1, .int a1)] := hl
  unfold f_MD_isObject at h
  refine lv_iload_n hx hb d_MD_isObject_0 rfl (lv_at hl 1 rfl) ?_
  refine lv_if_lt (tgt := 16) hx hb d_MD_isObject_1 (by decide) (fun c1 => ?_) (fun c1 => ?_)
  · rw [if_pos c1] at h
    refine lv_iconst (v := 0) hx hb d_MD_isObject_16 (by decide) ?_
    exact W.zret hx hb hr rfl (fun t ht _ => ⟨_, rfl, Option.some.inj h, ht⟩) (fun _ hq => nomatch hq) d_MD_isObject_17
  · rw [if_neg c1] at h
    refine lv_iload_n hx hb d_MD_isObject_4 rfl (lv_at hl 1 rfl) ?_
    refine lv_aload_n hx hb d_MD_isObject_5 rfl (lv_at hl 0 rfl) ?_
    refine gf_MD_90 C hP d_MD_isObject_6 ?_
    refine lv_icmp_ge (tgt := 16) hx hb d_MD_isObject_9 (by decide) (fun c2 => ?_) (fun c2 => ?_)
    · rw [if_pos c2] at h
      refine lv_iconst (v := 0) hx hb d_MD_isObject_16 (by decide) ?_
      exact W.zret hx hb hr rfl (fun t ht _ => ⟨_, rfl, Option.some.inj h, ht⟩) (fun _ hq => nomatch hq) d_MD_isObject_17
    · rw [if_neg c2] at h
      refine lv_iconst (v := 1) hx hb d_MD_isObject_12 (by decide) ?_
      refine lv_goto (tgt := 17) hx hb d_MD_isObject_13 (by decide) ?_
      exact W.zret hx hb hr rfl (fun t ht _ => ⟨_, rfl, Option.some.inj h, ht⟩) (fun _ hq => nomatch hq) d_MD_isObject_17
section RC
variable {p : Program} {l : Launch} {e : Env} {R : Room} {s : State} {m : MethodId} {args : Array Value} {below : List Frame} {meth : Method} {c : Code} {H : Heap} {locs : List Loc} {cells slots : Nat} {Q : State → Prop}
variable {cc : ByteArray} {pc : Nat} {ls : Array Slot} {rest : List Value} {G : va_G} {ad : Nat → Nat} {cI cZ : ClassId} {σ : Sg} {own : String}
theorem cl_MD_110 (C : CX "PlaceMovesModel" cc p s m args c G cI cZ) (hml : c.maxLocals = ls.size) (hP : va_P G clX (wR ad cI cZ σ) H) {x1 : Int32} {r : Int32} (hg : f_MD_isObject σ x1 = some r) (hR : 0 + 1 ≤ R.frames ∧ 8 + (2 + 11) + 0 ≤ R.locals) (hrest : (rest.map fun v => v.category).sum ≤ 8) (hd : decode cc pc = .ok (.invokevirtual 110, 3)) (hcs : cells + 0 ≤ R.cells ∧ slots + 0 ≤ R.slots) (kk : W p l e R s m args below meth c H locs cells slots Q (F0 m (pc + 3) ls (.int r :: rest))) : W p l e R s m args below meth c H locs cells slots Q (F0 m pc ls (.int x1 :: .ref (ad 0) :: rest)) :=
  vp_callSi (W.runV (As := [.int x1]) (rest := rest) ⟨C.1, C.2.1, hml, C.2.2.1, C.2.2.2.1⟩ (c_MD_isObject l G ad cI cZ σ x1 r hg) (cwV 1 C.2.2.2.1 (wg_V w_729 w_731 ws_19 w_8 w_732) rfl rfl rfl (by decide +kernel) hR) ⟨PcR.blind, va_recv C.2.2.2.2.1 hP (ci := 7) (q0 := 0) rfl rfl, fun U hU hW => ⟨rfl, by rw [hU]; exact hP, C.2.2.2.2.warm hW⟩⟩ rfl rfl rfl rfl (lv_room hrest) hd hcs) (fun r' e => by subst e; exact kk)
end RC
abbrev wl_MD_isPerson : List Cond := .code ⟨"PlaceMovesModel", "isPerson", "(I)Z"⟩ prog_9_method_7_code 1 (some FieldType.boolean) :: WG
set_option maxHeartbeats 4000000 in
set_option maxRecDepth 100000 in
theorem c_MD_isPerson (l : Launch) (G : va_G) (ad : Nat → Nat) (cI cZ : ClassId) (σ : Sg) (a0 : Int32) (out : Int32) (h : f_MD_isPerson σ a0 = some out) : Met l ⟨"PlaceMovesModel", "isPerson", "(I)Z"⟩ wl_MD_isPerson ({ frames := 0, cells := 0, slots := 0, locals := 0 } : Room) (PcR G ad cI cZ σ [.int a0]) (vp_Si (fun r => r = out)) 0 0 (fun _ => False) := by
  refine Met.ofW (cc := prog_9_method_7_code) (maxL := 1) (ret := (some FieldType.boolean)) (by decide) rfl ?_
  intro p e s m args below meth c s₁ B hml hv
  obtain ⟨rfl, hP, hK⟩ := hv
  have hx := B.exec
  have hb := B.bytes
  have hr := B.returns
  have hts0 := atoms_spec (ws := wl_MD_isPerson) B.pre
  have hts : ∀ w ∈ WG, w.before _ s = true := fun w hw => hts0 w (List.mem_cons_of_mem _ hw)
  have hown : s.vm.findClass "PlaceMovesModel" = some m.cls := findClass_of_methodNamed B.named
  have hlocks := B.notSynchronized
  have C : CX "PlaceMovesModel" prog_9_method_7_code p s m _ c G cI cZ := ⟨hx, hb, hown, hts, hK⟩
  have hl := lv_entry ([.int a0]) (n := 1) (Nat.le_of_ble_eq_true rfl)
  rw [lg_entry_eq]
  generalize (lg_sl ([.int a0]) ++ List.replicate (1 - (lg_sl ([.int a0])).length) Slot.unset).toArray = ls at hl ⊢
  have hl : lv_has ls 1 [(0, .int a0)] := hl
  unfold f_MD_isPerson at h
  refine lv_iload_n hx hb d_MD_isPerson_0 rfl (lv_at hl 0 rfl) ?_
  refine lv_if_lt (tgt := 14) hx hb d_MD_isPerson_1 (by decide) (fun c1 => ?_) (fun c1 => ?_)
  · rw [if_pos c1] at h
    refine lv_iconst (v := 0) hx hb d_MD_isPerson_14 (by decide) ?_
    exact W.zret hx hb hr rfl (fun t ht _ => ⟨_, rfl, Option.some.inj h, ht⟩) (fun _ hq => nomatch hq) d_MD_isPerson_15
  · rw [if_neg c1] at h
    refine lv_iload_n hx hb d_MD_isPerson_4 rfl (lv_at hl 0 rfl) ?_
    refine lv_bipush (v := 10) hx hb d_MD_isPerson_5 (by decide) ?_
    refine lv_icmp_ge (tgt := 14) hx hb d_MD_isPerson_7 (by decide) (fun c2 => ?_) (fun c2 => ?_)
    · rw [if_pos c2] at h
      refine lv_iconst (v := 0) hx hb d_MD_isPerson_14 (by decide) ?_
      exact W.zret hx hb hr rfl (fun t ht _ => ⟨_, rfl, Option.some.inj h, ht⟩) (fun _ hq => nomatch hq) d_MD_isPerson_15
    · rw [if_neg c2] at h
      refine lv_iconst (v := 1) hx hb d_MD_isPerson_10 (by decide) ?_
      refine lv_goto (tgt := 15) hx hb d_MD_isPerson_11 (by decide) ?_
      exact W.zret hx hb hr rfl (fun t ht _ => ⟨_, rfl, Option.some.inj h, ht⟩) (fun _ hq => nomatch hq) d_MD_isPerson_15
section RC
variable {p : Program} {l : Launch} {e : Env} {R : Room} {s : State} {m : MethodId} {args : Array Value} {below : List Frame} {meth : Method} {c : Code} {H : Heap} {locs : List Loc} {cells slots : Nat} {Q : State → Prop}
variable {cc : ByteArray} {pc : Nat} {ls : Array Slot} {rest : List Value} {G : va_G} {ad : Nat → Nat} {cI cZ : ClassId} {σ : Sg} {own : String}
theorem cl_MD_113 (C : CX "PlaceMovesModel" cc p s m args c G cI cZ) (hml : c.maxLocals = ls.size) (hP : va_P G clX (wR ad cI cZ σ) H) {x0 : Int32} {r : Int32} (hg : f_MD_isPerson σ x0 = some r) (hR : 0 + 1 ≤ R.frames ∧ 8 + (1 + 11) + 0 ≤ R.locals) (hrest : (rest.map fun v => v.category).sum ≤ 8) (hd : decode cc pc = .ok (.invokestatic 113, 3)) (hcs : cells + 0 ≤ R.cells ∧ slots + 0 ≤ R.slots) (kk : W p l e R s m args below meth c H locs cells slots Q (F0 m (pc + 3) ls (.int r :: rest))) : W p l e R s m args below meth c H locs cells slots Q (F0 m pc ls (.int x0 :: rest)) :=
  vp_callSi (W.runS (As := [.int x0]) (rest := rest) ⟨C.1, C.2.1, hml, C.2.2.1, C.2.2.2.1⟩ (c_MD_isPerson l G ad cI cZ σ x0 r hg) (va_cwS 1 C.2.2.2.1 (wg_S w_737 w_738 w_8 w_739) rfl rfl rfl (by decide +kernel) hR) ⟨PcR.blind, fun U hU hW => ⟨rfl, by rw [hU]; exact hP, C.2.2.2.2.warm hW⟩⟩ rfl rfl rfl rfl (lv_room hrest) hd hcs) (fun r' e => by subst e; exact kk)
end RC
abbrev wl_MD_place : List Cond := .code ⟨"PlaceMovesModel", "place", "(II)I"⟩ prog_9_method_8_code 3 (some FieldType.int) :: WG
set_option maxHeartbeats 4000000 in
set_option maxRecDepth 100000 in
theorem c_MD_place (l : Launch) (G : va_G) (ad : Nat → Nat) (cI cZ : ClassId) (hD : DR ad) (σ : Sg) (a1 : Int32) (a2 : Int32) (out : Int32 × Sg) (h : f_MD_place σ a1 a2 = some out) : Met l ⟨"PlaceMovesModel", "place", "(II)I"⟩ wl_MD_place ({ frames := 1, cells := 0, slots := 0, locals := 23 } : Room) (PcR G ad cI cZ σ [.ref (ad 0), .int a1, .int a2]) (QRi G ad cI cZ out) 0 0 (AR ad) := by
  refine Met.ofW (cc := prog_9_method_8_code) (maxL := 3) (ret := (some FieldType.int)) (by decide) rfl ?_
  intro p e s m args below meth c s₁ B hml hv
  obtain ⟨rfl, hP, hK⟩ := hv
  have hx := B.exec
  have hb := B.bytes
  have hr := B.returns
  have hts0 := atoms_spec (ws := wl_MD_place) B.pre
  have hts : ∀ w ∈ WG, w.before _ s = true := fun w hw => hts0 w (List.mem_cons_of_mem _ hw)
  have hown : s.vm.findClass "PlaceMovesModel" = some m.cls := findClass_of_methodNamed B.named
  have hlocks := B.notSynchronized
  have C : CX "PlaceMovesModel" prog_9_method_8_code p s m _ c G cI cZ := ⟨hx, hb, hown, hts, hK⟩
  have hl := lv_entry ([.ref (ad 0), .int a1, .int a2]) (n := 3) (Nat.le_of_ble_eq_true rfl)
  rw [lg_entry_eq]
  generalize (lg_sl ([.ref (ad 0), .int a1, .int a2]) ++ List.replicate (3 - (lg_sl ([.ref (ad 0), .int a1, .int a2])).length) Slot.unset).toArray = ls at hl ⊢
  have hl : lv_has ls 3 [(0, .ref (ad 0)), (1, .int a1), (2, .int a2)] := hl
  unfold f_MD_place at h
  have hW : WR G ad cI cZ s σ s.heap [] := ⟨hP, va_S.rf⟩
  refine lv_aload_n hx hb d_MD_place_0 rfl (lv_at hl 0 rfl) ?_
  refine lv_iload_n hx hb d_MD_place_1 rfl (lv_at hl 1 rfl) ?_
  refine lv_iconst (v := (-1)) hx hb d_MD_place_2 (by decide) ?_
  refine lv_icmp_eq (tgt := 14) hx hb d_MD_place_3 (by decide) (fun c1 => ?_) (fun c1 => ?_)
  · rw [if_pos c1] at h
    refine lv_iconst (v := 1) hx hb d_MD_place_14 (by decide) ?_
    refine lv_goto (tgt := 19) hx hb d_MD_place_15 (by decide) ?_
    refine lv_iload_n hx hb d_MD_place_19 rfl (lv_at hl 2 rfl) ?_
    refine lv_iconst (v := 1) hx hb d_MD_place_20 (by decide) ?_
    refine lv_ldc (v := 1000000000) hx hb hown (hts _ w_709) d_MD_place_21 ?_
    obtain ⟨r28, g_r28, h⟩ := ob_some h
    refine cl_MD_98 (rest := [.int 1, .ref (ad 0)]) C (hml.trans hl.1.symm) hW.1 g_r28 ⟨Nat.le_of_ble_eq_true rfl, Nat.le_of_ble_eq_true rfl⟩ (Nat.le_of_ble_eq_true rfl) d_MD_place_23 ⟨Nat.zero_le _, Nat.zero_le _⟩ ?_
    refine lv_aload_n hx hb d_MD_place_26 rfl (lv_at hl 0 rfl) ?_
    refine gf_MD_87 C hW.1 d_MD_place_27 ?_
    refine lv_bipush (v := 24) hx hb d_MD_place_30 (by decide) ?_
    refine lv_icmp_ge (tgt := 39) hx hb d_MD_place_32 (by decide) (fun c29 => ?_) (fun c29 => ?_)
    · rw [if_pos c29] at h
      refine lv_iconst (v := 0) hx hb d_MD_place_39 (by decide) ?_
      have k40 : ∀ (x1 : Int32) (x2 : Int32) (s0 : Int32) (s1 : Int32) (s2 : Int32) (σ : Sg) (h : C_MD_place_40 x1 x2 s0 s1 s2 σ = some out) (H : Heap) (locs : List Loc) (hW : WR G ad cI cZ s σ H locs) (ls : Array Slot) (hl : lv_has ls 3 [(0, .ref (ad 0)), (1, .int x1), (2, .int x2)]), W p l e (headSpec wl_MD_place ({ frames := 1, cells := 0, slots := 0, locals := 23 } : Room)).room s m (([.ref (ad 0), .int a1, .int a2] : List Value).toArray) below meth c H locs 0 0 (MQ below (QRi G ad cI cZ out) (([.ref (ad 0), .int a1, .int a2] : List Value).toArray) s 0 0 (AR ad)) (F0 m 40 ls [.int s0, .int s1, .int s2, .ref (ad 0)]) := by
        intro x1 x2 s0 s1 s2 σ h H locs hW ls hl
        unfold C_MD_place_40 at h
        obtain ⟨r35, g_r35, h⟩ := ob_some h
        refine cl_MD_102 (rest := []) C hD (hml.trans hl.1.symm) hW g_r35 ⟨Nat.le_of_ble_eq_true rfl, Nat.le_of_ble_eq_true rfl⟩ (Nat.le_of_ble_eq_true rfl) d_MD_place_40 ⟨Nat.zero_le _, Nat.zero_le _⟩ (fun H locs hW => ?_)
        refine lv_if_ne (tgt := 48) hx hb d_MD_place_43 (by decide) (fun c36 => ?_) (fun c36 => ?_)
        · rw [if_neg c36] at h
          refine lv_aload_n hx hb d_MD_place_48 rfl (lv_at hl 0 rfl) ?_
          refine gf_MD_7 C hW.1 d_MD_place_49 ?_
          refine lv_aload_n hx hb d_MD_place_52 rfl (lv_at hl 0 rfl) ?_
          refine gf_MD_87 C hW.1 d_MD_place_53 ?_
          refine lv_iload_n hx hb d_MD_place_56 rfl (lv_at hl 1 rfl) ?_
          obtain ⟨hin, h⟩ := gd_some h
          refine asR_1 C hD hW hin d_MD_place_57 (fun H locs hW => ?_)
          obtain ⟨σ37, e_σ37, h⟩ := lt1_some h
          rw [← e_σ37] at hW
          refine lv_aload_n hx hb d_MD_place_58 rfl (lv_at hl 0 rfl) ?_
          refine gf_MD_13 C hW.1 d_MD_place_59 ?_
          refine lv_aload_n hx hb d_MD_place_62 rfl (lv_at hl 0 rfl) ?_
          refine gf_MD_87 C hW.1 d_MD_place_63 ?_
          refine lv_iload_n hx hb d_MD_place_66 rfl (lv_at hl 2 rfl) ?_
          obtain ⟨hin, h⟩ := gd_some h
          refine asR_2 C hD hW hin d_MD_place_67 (fun H locs hW => ?_)
          obtain ⟨σ38, e_σ38, h⟩ := lt1_some h
          rw [← e_σ38] at hW
          refine lv_aload_n hx hb d_MD_place_68 rfl (lv_at hl 0 rfl) ?_
          refine lv_dup hx hb d_MD_place_69 rfl ?_
          refine gf_MD_87 C hW.1 d_MD_place_70 ?_
          refine lv_iconst (v := 1) hx hb d_MD_place_73 (by decide) ?_
          refine lv_iadd hx hb d_MD_place_74 ?_
          refine pf_MD_87 C hD hW d_MD_place_75 (fun H locs hW => ?_)
          obtain ⟨σ39, e_σ39, h⟩ := lt1_some h
          rw [← e_σ39] at hW
          refine lv_aload_n hx hb d_MD_place_78 rfl (lv_at hl 0 rfl) ?_
          refine gf_MD_87 C hW.1 d_MD_place_79 ?_
          refine lv_iconst (v := 1) hx hb d_MD_place_82 (by decide) ?_
          refine lv_isub hx hb d_MD_place_83 ?_
          exact W.iret hx hb hr (fun t ht _ => qr_i h ht hW) hW.2.2.2 d_MD_place_84
        · rw [if_pos c36] at h
          refine lv_iconst (v := 0) hx hb d_MD_place_46 (by decide) ?_
          exact W.iret hx hb hr (fun t ht _ => qr_i h ht hW) hW.2.2.2 d_MD_place_47
      exact k40 a1 a2 0 r28 1 σ h _ _ hW _ (lv_sub hl [0, 1, 2] rfl)
    · rw [if_neg c29] at h
      refine lv_iconst (v := 1) hx hb d_MD_place_35 (by decide) ?_
      refine lv_goto (tgt := 40) hx hb d_MD_place_36 (by decide) ?_
      have k40 : ∀ (x1 : Int32) (x2 : Int32) (s0 : Int32) (s1 : Int32) (s2 : Int32) (σ : Sg) (h : C_MD_place_40 x1 x2 s0 s1 s2 σ = some out) (H : Heap) (locs : List Loc) (hW : WR G ad cI cZ s σ H locs) (ls : Array Slot) (hl : lv_has ls 3 [(0, .ref (ad 0)), (1, .int x1), (2, .int x2)]), W p l e (headSpec wl_MD_place ({ frames := 1, cells := 0, slots := 0, locals := 23 } : Room)).room s m (([.ref (ad 0), .int a1, .int a2] : List Value).toArray) below meth c H locs 0 0 (MQ below (QRi G ad cI cZ out) (([.ref (ad 0), .int a1, .int a2] : List Value).toArray) s 0 0 (AR ad)) (F0 m 40 ls [.int s0, .int s1, .int s2, .ref (ad 0)]) := by
        intro x1 x2 s0 s1 s2 σ h H locs hW ls hl
        unfold C_MD_place_40 at h
        obtain ⟨r30, g_r30, h⟩ := ob_some h
        refine cl_MD_102 (rest := []) C hD (hml.trans hl.1.symm) hW g_r30 ⟨Nat.le_of_ble_eq_true rfl, Nat.le_of_ble_eq_true rfl⟩ (Nat.le_of_ble_eq_true rfl) d_MD_place_40 ⟨Nat.zero_le _, Nat.zero_le _⟩ (fun H locs hW => ?_)
        refine lv_if_ne (tgt := 48) hx hb d_MD_place_43 (by decide) (fun c31 => ?_) (fun c31 => ?_)
        · rw [if_neg c31] at h
          refine lv_aload_n hx hb d_MD_place_48 rfl (lv_at hl 0 rfl) ?_
          refine gf_MD_7 C hW.1 d_MD_place_49 ?_
          refine lv_aload_n hx hb d_MD_place_52 rfl (lv_at hl 0 rfl) ?_
          refine gf_MD_87 C hW.1 d_MD_place_53 ?_
          refine lv_iload_n hx hb d_MD_place_56 rfl (lv_at hl 1 rfl) ?_
          obtain ⟨hin, h⟩ := gd_some h
          refine asR_1 C hD hW hin d_MD_place_57 (fun H locs hW => ?_)
          obtain ⟨σ32, e_σ32, h⟩ := lt1_some h
          rw [← e_σ32] at hW
          refine lv_aload_n hx hb d_MD_place_58 rfl (lv_at hl 0 rfl) ?_
          refine gf_MD_13 C hW.1 d_MD_place_59 ?_
          refine lv_aload_n hx hb d_MD_place_62 rfl (lv_at hl 0 rfl) ?_
          refine gf_MD_87 C hW.1 d_MD_place_63 ?_
          refine lv_iload_n hx hb d_MD_place_66 rfl (lv_at hl 2 rfl) ?_
          obtain ⟨hin, h⟩ := gd_some h
          refine asR_2 C hD hW hin d_MD_place_67 (fun H locs hW => ?_)
          obtain ⟨σ33, e_σ33, h⟩ := lt1_some h
          rw [← e_σ33] at hW
          refine lv_aload_n hx hb d_MD_place_68 rfl (lv_at hl 0 rfl) ?_
          refine lv_dup hx hb d_MD_place_69 rfl ?_
          refine gf_MD_87 C hW.1 d_MD_place_70 ?_
          refine lv_iconst (v := 1) hx hb d_MD_place_73 (by decide) ?_
          refine lv_iadd hx hb d_MD_place_74 ?_
          refine pf_MD_87 C hD hW d_MD_place_75 (fun H locs hW => ?_)
          obtain ⟨σ34, e_σ34, h⟩ := lt1_some h
          rw [← e_σ34] at hW
          refine lv_aload_n hx hb d_MD_place_78 rfl (lv_at hl 0 rfl) ?_
          refine gf_MD_87 C hW.1 d_MD_place_79 ?_
          refine lv_iconst (v := 1) hx hb d_MD_place_82 (by decide) ?_
          refine lv_isub hx hb d_MD_place_83 ?_
          exact W.iret hx hb hr (fun t ht _ => qr_i h ht hW) hW.2.2.2 d_MD_place_84
        · rw [if_pos c31] at h
          refine lv_iconst (v := 0) hx hb d_MD_place_46 (by decide) ?_
          exact W.iret hx hb hr (fun t ht _ => qr_i h ht hW) hW.2.2.2 d_MD_place_47
      exact k40 a1 a2 1 r28 1 σ h _ _ hW _ (lv_sub hl [0, 1, 2] rfl)
  · rw [if_neg c1] at h
    refine lv_aload_n hx hb d_MD_place_6 rfl (lv_at hl 0 rfl) ?_
    refine lv_iload_n hx hb d_MD_place_7 rfl (lv_at hl 1 rfl) ?_
    obtain ⟨r2, g_r2, h⟩ := ob_some h
    refine cl_MD_93 (rest := [.ref (ad 0)]) C (hml.trans hl.1.symm) hW.1 g_r2 ⟨Nat.le_of_ble_eq_true rfl, Nat.le_of_ble_eq_true rfl⟩ (Nat.le_of_ble_eq_true rfl) d_MD_place_8 ⟨Nat.zero_le _, Nat.zero_le _⟩ ?_
    refine lv_if_eq (tgt := 18) hx hb d_MD_place_11 (by decide) (fun c3 => ?_) (fun c3 => ?_)
    · rw [if_pos c3] at h
      refine lv_iconst (v := 0) hx hb d_MD_place_18 (by decide) ?_
      refine lv_iload_n hx hb d_MD_place_19 rfl (lv_at hl 2 rfl) ?_
      refine lv_iconst (v := 1) hx hb d_MD_place_20 (by decide) ?_
      refine lv_ldc (v := 1000000000) hx hb hown (hts _ w_709) d_MD_place_21 ?_
      obtain ⟨r16, g_r16, h⟩ := ob_some h
      refine cl_MD_98 (rest := [.int 0, .ref (ad 0)]) C (hml.trans hl.1.symm) hW.1 g_r16 ⟨Nat.le_of_ble_eq_true rfl, Nat.le_of_ble_eq_true rfl⟩ (Nat.le_of_ble_eq_true rfl) d_MD_place_23 ⟨Nat.zero_le _, Nat.zero_le _⟩ ?_
      refine lv_aload_n hx hb d_MD_place_26 rfl (lv_at hl 0 rfl) ?_
      refine gf_MD_87 C hW.1 d_MD_place_27 ?_
      refine lv_bipush (v := 24) hx hb d_MD_place_30 (by decide) ?_
      refine lv_icmp_ge (tgt := 39) hx hb d_MD_place_32 (by decide) (fun c17 => ?_) (fun c17 => ?_)
      · rw [if_pos c17] at h
        refine lv_iconst (v := 0) hx hb d_MD_place_39 (by decide) ?_
        have k40 : ∀ (x1 : Int32) (x2 : Int32) (s0 : Int32) (s1 : Int32) (s2 : Int32) (σ : Sg) (h : C_MD_place_40 x1 x2 s0 s1 s2 σ = some out) (H : Heap) (locs : List Loc) (hW : WR G ad cI cZ s σ H locs) (ls : Array Slot) (hl : lv_has ls 3 [(0, .ref (ad 0)), (1, .int x1), (2, .int x2)]), W p l e (headSpec wl_MD_place ({ frames := 1, cells := 0, slots := 0, locals := 23 } : Room)).room s m (([.ref (ad 0), .int a1, .int a2] : List Value).toArray) below meth c H locs 0 0 (MQ below (QRi G ad cI cZ out) (([.ref (ad 0), .int a1, .int a2] : List Value).toArray) s 0 0 (AR ad)) (F0 m 40 ls [.int s0, .int s1, .int s2, .ref (ad 0)]) := by
          intro x1 x2 s0 s1 s2 σ h H locs hW ls hl
          unfold C_MD_place_40 at h
          obtain ⟨r23, g_r23, h⟩ := ob_some h
          refine cl_MD_102 (rest := []) C hD (hml.trans hl.1.symm) hW g_r23 ⟨Nat.le_of_ble_eq_true rfl, Nat.le_of_ble_eq_true rfl⟩ (Nat.le_of_ble_eq_true rfl) d_MD_place_40 ⟨Nat.zero_le _, Nat.zero_le _⟩ (fun H locs hW => ?_)
          refine lv_if_ne (tgt := 48) hx hb d_MD_place_43 (by decide) (fun c24 => ?_) (fun c24 => ?_)
          · rw [if_neg c24] at h
            refine lv_aload_n hx hb d_MD_place_48 rfl (lv_at hl 0 rfl) ?_
            refine gf_MD_7 C hW.1 d_MD_place_49 ?_
            refine lv_aload_n hx hb d_MD_place_52 rfl (lv_at hl 0 rfl) ?_
            refine gf_MD_87 C hW.1 d_MD_place_53 ?_
            refine lv_iload_n hx hb d_MD_place_56 rfl (lv_at hl 1 rfl) ?_
            obtain ⟨hin, h⟩ := gd_some h
            refine asR_1 C hD hW hin d_MD_place_57 (fun H locs hW => ?_)
            obtain ⟨σ25, e_σ25, h⟩ := lt1_some h
            rw [← e_σ25] at hW
            refine lv_aload_n hx hb d_MD_place_58 rfl (lv_at hl 0 rfl) ?_
            refine gf_MD_13 C hW.1 d_MD_place_59 ?_
            refine lv_aload_n hx hb d_MD_place_62 rfl (lv_at hl 0 rfl) ?_
            refine gf_MD_87 C hW.1 d_MD_place_63 ?_
            refine lv_iload_n hx hb d_MD_place_66 rfl (lv_at hl 2 rfl) ?_
            obtain ⟨hin, h⟩ := gd_some h
            refine asR_2 C hD hW hin d_MD_place_67 (fun H locs hW => ?_)
            obtain ⟨σ26, e_σ26, h⟩ := lt1_some h
            rw [← e_σ26] at hW
            refine lv_aload_n hx hb d_MD_place_68 rfl (lv_at hl 0 rfl) ?_
            refine lv_dup hx hb d_MD_place_69 rfl ?_
            refine gf_MD_87 C hW.1 d_MD_place_70 ?_
            refine lv_iconst (v := 1) hx hb d_MD_place_73 (by decide) ?_
            refine lv_iadd hx hb d_MD_place_74 ?_
            refine pf_MD_87 C hD hW d_MD_place_75 (fun H locs hW => ?_)
            obtain ⟨σ27, e_σ27, h⟩ := lt1_some h
            rw [← e_σ27] at hW
            refine lv_aload_n hx hb d_MD_place_78 rfl (lv_at hl 0 rfl) ?_
            refine gf_MD_87 C hW.1 d_MD_place_79 ?_
            refine lv_iconst (v := 1) hx hb d_MD_place_82 (by decide) ?_
            refine lv_isub hx hb d_MD_place_83 ?_
            exact W.iret hx hb hr (fun t ht _ => qr_i h ht hW) hW.2.2.2 d_MD_place_84
          · rw [if_pos c24] at h
            refine lv_iconst (v := 0) hx hb d_MD_place_46 (by decide) ?_
            exact W.iret hx hb hr (fun t ht _ => qr_i h ht hW) hW.2.2.2 d_MD_place_47
        exact k40 a1 a2 0 r16 0 σ h _ _ hW _ (lv_sub hl [0, 1, 2] rfl)
      · rw [if_neg c17] at h
        refine lv_iconst (v := 1) hx hb d_MD_place_35 (by decide) ?_
        refine lv_goto (tgt := 40) hx hb d_MD_place_36 (by decide) ?_
        have k40 : ∀ (x1 : Int32) (x2 : Int32) (s0 : Int32) (s1 : Int32) (s2 : Int32) (σ : Sg) (h : C_MD_place_40 x1 x2 s0 s1 s2 σ = some out) (H : Heap) (locs : List Loc) (hW : WR G ad cI cZ s σ H locs) (ls : Array Slot) (hl : lv_has ls 3 [(0, .ref (ad 0)), (1, .int x1), (2, .int x2)]), W p l e (headSpec wl_MD_place ({ frames := 1, cells := 0, slots := 0, locals := 23 } : Room)).room s m (([.ref (ad 0), .int a1, .int a2] : List Value).toArray) below meth c H locs 0 0 (MQ below (QRi G ad cI cZ out) (([.ref (ad 0), .int a1, .int a2] : List Value).toArray) s 0 0 (AR ad)) (F0 m 40 ls [.int s0, .int s1, .int s2, .ref (ad 0)]) := by
          intro x1 x2 s0 s1 s2 σ h H locs hW ls hl
          unfold C_MD_place_40 at h
          obtain ⟨r18, g_r18, h⟩ := ob_some h
          refine cl_MD_102 (rest := []) C hD (hml.trans hl.1.symm) hW g_r18 ⟨Nat.le_of_ble_eq_true rfl, Nat.le_of_ble_eq_true rfl⟩ (Nat.le_of_ble_eq_true rfl) d_MD_place_40 ⟨Nat.zero_le _, Nat.zero_le _⟩ (fun H locs hW => ?_)
          refine lv_if_ne (tgt := 48) hx hb d_MD_place_43 (by decide) (fun c19 => ?_) (fun c19 => ?_)
          · rw [if_neg c19] at h
            refine lv_aload_n hx hb d_MD_place_48 rfl (lv_at hl 0 rfl) ?_
            refine gf_MD_7 C hW.1 d_MD_place_49 ?_
            refine lv_aload_n hx hb d_MD_place_52 rfl (lv_at hl 0 rfl) ?_
            refine gf_MD_87 C hW.1 d_MD_place_53 ?_
            refine lv_iload_n hx hb d_MD_place_56 rfl (lv_at hl 1 rfl) ?_
            obtain ⟨hin, h⟩ := gd_some h
            refine asR_1 C hD hW hin d_MD_place_57 (fun H locs hW => ?_)
            obtain ⟨σ20, e_σ20, h⟩ := lt1_some h
            rw [← e_σ20] at hW
            refine lv_aload_n hx hb d_MD_place_58 rfl (lv_at hl 0 rfl) ?_
            refine gf_MD_13 C hW.1 d_MD_place_59 ?_
            refine lv_aload_n hx hb d_MD_place_62 rfl (lv_at hl 0 rfl) ?_
            refine gf_MD_87 C hW.1 d_MD_place_63 ?_
            refine lv_iload_n hx hb d_MD_place_66 rfl (lv_at hl 2 rfl) ?_
            obtain ⟨hin, h⟩ := gd_some h
            refine asR_2 C hD hW hin d_MD_place_67 (fun H locs hW => ?_)
            obtain ⟨σ21, e_σ21, h⟩ := lt1_some h
            rw [← e_σ21] at hW
            refine lv_aload_n hx hb d_MD_place_68 rfl (lv_at hl 0 rfl) ?_
            refine lv_dup hx hb d_MD_place_69 rfl ?_
            refine gf_MD_87 C hW.1 d_MD_place_70 ?_
            refine lv_iconst (v := 1) hx hb d_MD_place_73 (by decide) ?_
            refine lv_iadd hx hb d_MD_place_74 ?_
            refine pf_MD_87 C hD hW d_MD_place_75 (fun H locs hW => ?_)
            obtain ⟨σ22, e_σ22, h⟩ := lt1_some h
            rw [← e_σ22] at hW
            refine lv_aload_n hx hb d_MD_place_78 rfl (lv_at hl 0 rfl) ?_
            refine gf_MD_87 C hW.1 d_MD_place_79 ?_
            refine lv_iconst (v := 1) hx hb d_MD_place_82 (by decide) ?_
            refine lv_isub hx hb d_MD_place_83 ?_
            exact W.iret hx hb hr (fun t ht _ => qr_i h ht hW) hW.2.2.2 d_MD_place_84
          · rw [if_pos c19] at h
            refine lv_iconst (v := 0) hx hb d_MD_place_46 (by decide) ?_
            exact W.iret hx hb hr (fun t ht _ => qr_i h ht hW) hW.2.2.2 d_MD_place_47
        exact k40 a1 a2 1 r16 0 σ h _ _ hW _ (lv_sub hl [0, 1, 2] rfl)
    · rw [if_neg c3] at h
      refine lv_iconst (v := 1) hx hb d_MD_place_14 (by decide) ?_
      refine lv_goto (tgt := 19) hx hb d_MD_place_15 (by decide) ?_
      refine lv_iload_n hx hb d_MD_place_19 rfl (lv_at hl 2 rfl) ?_
      refine lv_iconst (v := 1) hx hb d_MD_place_20 (by decide) ?_
      refine lv_ldc (v := 1000000000) hx hb hown (hts _ w_709) d_MD_place_21 ?_
      obtain ⟨r4, g_r4, h⟩ := ob_some h
      refine cl_MD_98 (rest := [.int 1, .ref (ad 0)]) C (hml.trans hl.1.symm) hW.1 g_r4 ⟨Nat.le_of_ble_eq_true rfl, Nat.le_of_ble_eq_true rfl⟩ (Nat.le_of_ble_eq_true rfl) d_MD_place_23 ⟨Nat.zero_le _, Nat.zero_le _⟩ ?_
      refine lv_aload_n hx hb d_MD_place_26 rfl (lv_at hl 0 rfl) ?_
      refine gf_MD_87 C hW.1 d_MD_place_27 ?_
      refine lv_bipush (v := 24) hx hb d_MD_place_30 (by decide) ?_
      refine lv_icmp_ge (tgt := 39) hx hb d_MD_place_32 (by decide) (fun c5 => ?_) (fun c5 => ?_)
      · rw [if_pos c5] at h
        refine lv_iconst (v := 0) hx hb d_MD_place_39 (by decide) ?_
        have k40 : ∀ (x1 : Int32) (x2 : Int32) (s0 : Int32) (s1 : Int32) (s2 : Int32) (σ : Sg) (h : C_MD_place_40 x1 x2 s0 s1 s2 σ = some out) (H : Heap) (locs : List Loc) (hW : WR G ad cI cZ s σ H locs) (ls : Array Slot) (hl : lv_has ls 3 [(0, .ref (ad 0)), (1, .int x1), (2, .int x2)]), W p l e (headSpec wl_MD_place ({ frames := 1, cells := 0, slots := 0, locals := 23 } : Room)).room s m (([.ref (ad 0), .int a1, .int a2] : List Value).toArray) below meth c H locs 0 0 (MQ below (QRi G ad cI cZ out) (([.ref (ad 0), .int a1, .int a2] : List Value).toArray) s 0 0 (AR ad)) (F0 m 40 ls [.int s0, .int s1, .int s2, .ref (ad 0)]) := by
          intro x1 x2 s0 s1 s2 σ h H locs hW ls hl
          unfold C_MD_place_40 at h
          obtain ⟨r11, g_r11, h⟩ := ob_some h
          refine cl_MD_102 (rest := []) C hD (hml.trans hl.1.symm) hW g_r11 ⟨Nat.le_of_ble_eq_true rfl, Nat.le_of_ble_eq_true rfl⟩ (Nat.le_of_ble_eq_true rfl) d_MD_place_40 ⟨Nat.zero_le _, Nat.zero_le _⟩ (fun H locs hW => ?_)
          refine lv_if_ne (tgt := 48) hx hb d_MD_place_43 (by decide) (fun c12 => ?_) (fun c12 => ?_)
          · rw [if_neg c12] at h
            refine lv_aload_n hx hb d_MD_place_48 rfl (lv_at hl 0 rfl) ?_
            refine gf_MD_7 C hW.1 d_MD_place_49 ?_
            refine lv_aload_n hx hb d_MD_place_52 rfl (lv_at hl 0 rfl) ?_
            refine gf_MD_87 C hW.1 d_MD_place_53 ?_
            refine lv_iload_n hx hb d_MD_place_56 rfl (lv_at hl 1 rfl) ?_
            obtain ⟨hin, h⟩ := gd_some h
            refine asR_1 C hD hW hin d_MD_place_57 (fun H locs hW => ?_)
            obtain ⟨σ13, e_σ13, h⟩ := lt1_some h
            rw [← e_σ13] at hW
            refine lv_aload_n hx hb d_MD_place_58 rfl (lv_at hl 0 rfl) ?_
            refine gf_MD_13 C hW.1 d_MD_place_59 ?_
            refine lv_aload_n hx hb d_MD_place_62 rfl (lv_at hl 0 rfl) ?_
            refine gf_MD_87 C hW.1 d_MD_place_63 ?_
            refine lv_iload_n hx hb d_MD_place_66 rfl (lv_at hl 2 rfl) ?_
            obtain ⟨hin, h⟩ := gd_some h
            refine asR_2 C hD hW hin d_MD_place_67 (fun H locs hW => ?_)
            obtain ⟨σ14, e_σ14, h⟩ := lt1_some h
            rw [← e_σ14] at hW
            refine lv_aload_n hx hb d_MD_place_68 rfl (lv_at hl 0 rfl) ?_
            refine lv_dup hx hb d_MD_place_69 rfl ?_
            refine gf_MD_87 C hW.1 d_MD_place_70 ?_
            refine lv_iconst (v := 1) hx hb d_MD_place_73 (by decide) ?_
            refine lv_iadd hx hb d_MD_place_74 ?_
            refine pf_MD_87 C hD hW d_MD_place_75 (fun H locs hW => ?_)
            obtain ⟨σ15, e_σ15, h⟩ := lt1_some h
            rw [← e_σ15] at hW
            refine lv_aload_n hx hb d_MD_place_78 rfl (lv_at hl 0 rfl) ?_
            refine gf_MD_87 C hW.1 d_MD_place_79 ?_
            refine lv_iconst (v := 1) hx hb d_MD_place_82 (by decide) ?_
            refine lv_isub hx hb d_MD_place_83 ?_
            exact W.iret hx hb hr (fun t ht _ => qr_i h ht hW) hW.2.2.2 d_MD_place_84
          · rw [if_pos c12] at h
            refine lv_iconst (v := 0) hx hb d_MD_place_46 (by decide) ?_
            exact W.iret hx hb hr (fun t ht _ => qr_i h ht hW) hW.2.2.2 d_MD_place_47
        exact k40 a1 a2 0 r4 1 σ h _ _ hW _ (lv_sub hl [0, 1, 2] rfl)
      · rw [if_neg c5] at h
        refine lv_iconst (v := 1) hx hb d_MD_place_35 (by decide) ?_
        refine lv_goto (tgt := 40) hx hb d_MD_place_36 (by decide) ?_
        have k40 : ∀ (x1 : Int32) (x2 : Int32) (s0 : Int32) (s1 : Int32) (s2 : Int32) (σ : Sg) (h : C_MD_place_40 x1 x2 s0 s1 s2 σ = some out) (H : Heap) (locs : List Loc) (hW : WR G ad cI cZ s σ H locs) (ls : Array Slot) (hl : lv_has ls 3 [(0, .ref (ad 0)), (1, .int x1), (2, .int x2)]), W p l e (headSpec wl_MD_place ({ frames := 1, cells := 0, slots := 0, locals := 23 } : Room)).room s m (([.ref (ad 0), .int a1, .int a2] : List Value).toArray) below meth c H locs 0 0 (MQ below (QRi G ad cI cZ out) (([.ref (ad 0), .int a1, .int a2] : List Value).toArray) s 0 0 (AR ad)) (F0 m 40 ls [.int s0, .int s1, .int s2, .ref (ad 0)]) := by
          intro x1 x2 s0 s1 s2 σ h H locs hW ls hl
          unfold C_MD_place_40 at h
          obtain ⟨r6, g_r6, h⟩ := ob_some h
          refine cl_MD_102 (rest := []) C hD (hml.trans hl.1.symm) hW g_r6 ⟨Nat.le_of_ble_eq_true rfl, Nat.le_of_ble_eq_true rfl⟩ (Nat.le_of_ble_eq_true rfl) d_MD_place_40 ⟨Nat.zero_le _, Nat.zero_le _⟩ (fun H locs hW => ?_)
          refine lv_if_ne (tgt := 48) hx hb d_MD_place_43 (by decide) (fun c7 => ?_) (fun c7 => ?_)
          · rw [if_neg c7] at h
            refine lv_aload_n hx hb d_MD_place_48 rfl (lv_at hl 0 rfl) ?_
            refine gf_MD_7 C hW.1 d_MD_place_49 ?_
            refine lv_aload_n hx hb d_MD_place_52 rfl (lv_at hl 0 rfl) ?_
            refine gf_MD_87 C hW.1 d_MD_place_53 ?_
            refine lv_iload_n hx hb d_MD_place_56 rfl (lv_at hl 1 rfl) ?_
            obtain ⟨hin, h⟩ := gd_some h
            refine asR_1 C hD hW hin d_MD_place_57 (fun H locs hW => ?_)
            obtain ⟨σ8, e_σ8, h⟩ := lt1_some h
            rw [← e_σ8] at hW
            refine lv_aload_n hx hb d_MD_place_58 rfl (lv_at hl 0 rfl) ?_
            refine gf_MD_13 C hW.1 d_MD_place_59 ?_
            refine lv_aload_n hx hb d_MD_place_62 rfl (lv_at hl 0 rfl) ?_
            refine gf_MD_87 C hW.1 d_MD_place_63 ?_
            refine lv_iload_n hx hb d_MD_place_66 rfl (lv_at hl 2 rfl) ?_
            obtain ⟨hin, h⟩ := gd_some h
            refine asR_2 C hD hW hin d_MD_place_67 (fun H locs hW => ?_)
            obtain ⟨σ9, e_σ9, h⟩ := lt1_some h
            rw [← e_σ9] at hW
            refine lv_aload_n hx hb d_MD_place_68 rfl (lv_at hl 0 rfl) ?_
            refine lv_dup hx hb d_MD_place_69 rfl ?_
            refine gf_MD_87 C hW.1 d_MD_place_70 ?_
            refine lv_iconst (v := 1) hx hb d_MD_place_73 (by decide) ?_
            refine lv_iadd hx hb d_MD_place_74 ?_
            refine pf_MD_87 C hD hW d_MD_place_75 (fun H locs hW => ?_)
            obtain ⟨σ10, e_σ10, h⟩ := lt1_some h
            rw [← e_σ10] at hW
            refine lv_aload_n hx hb d_MD_place_78 rfl (lv_at hl 0 rfl) ?_
            refine gf_MD_87 C hW.1 d_MD_place_79 ?_
            refine lv_iconst (v := 1) hx hb d_MD_place_82 (by decide) ?_
            refine lv_isub hx hb d_MD_place_83 ?_
            exact W.iret hx hb hr (fun t ht _ => qr_i h ht hW) hW.2.2.2 d_MD_place_84
          · rw [if_pos c7] at h
            refine lv_iconst (v := 0) hx hb d_MD_place_46 (by decide) ?_
            exact W.iret hx hb hr (fun t ht _ => qr_i h ht hW) hW.2.2.2 d_MD_place_47
        exact k40 a1 a2 1 r4 1 σ h _ _ hW _ (lv_sub hl [0, 1, 2] rfl)
