abbrev wl_PM_weightOf : List Cond := .code ⟨"PlaceMoves", "weightOf", "(I)I"⟩ prog_1_method_35_code 4 (some FieldType.int) :: WG
set_option maxHeartbeats 4000000 in
set_option maxRecDepth 100000 in
theorem c_PM_weightOf (l : Launch) (G : va_G) (ad : Nat → Nat) (cI cZ : ClassId) (σ : Sg) (a1 : Int32) (out : Int32) (h : f_PM_weightOf σ a1 = some out) : Met l ⟨"PlaceMoves", "weightOf", "(I)I"⟩ wl_PM_weightOf ({ frames := 0, cells := 0, slots := 0, locals := 0 } : Room) (PcX G ad cI cZ σ [.ref (ad 0), .int a1]) (vp_Si (fun r => r = out)) 0 0 (fun _ => False) := by
  refine Met.ofW (cc := prog_1_method_35_code) (maxL := 4) (ret := (some FieldType.int)) (by decide) rfl ?_
  intro p e s m args below meth c s₁ B hml hv
  obtain ⟨rfl, hP, hK⟩ := hv
  have hx := B.exec
  have hb := B.bytes
  have hr := B.returns
  have hts0 := atoms_spec (ws := wl_PM_weightOf) B.pre
  have hts : ∀ w ∈ WG, w.before _ s = true := fun w hw => hts0 w (List.mem_cons_of_mem _ hw)
  have hown : s.vm.findClass "PlaceMoves" = some m.cls := findClass_of_methodNamed B.named
  have hlocks := B.notSynchronized
  have C : CX "PlaceMoves" prog_1_method_35_code p s m _ c G cI cZ := ⟨hx, hb, hown, hts, hK⟩
  have hl := lv_entry ([.ref (ad 0), .int a1]) (n := 4) (Nat.le_of_ble_eq_true rfl)
  rw [lg_entry_eq]
  generalize (lg_sl ([.ref (ad 0), .int a1]) ++ List.replicate (4 - (lg_sl ([.ref (ad 0), .int a1])).length) Slot.unset).toArray = ls at hl ⊢
  have hl : lv_has ls 4 [(0, .ref (ad 0)), (1, .int a1)] := hl
  unfold f_PM_weightOf at h
  refine lv_iconst (v := 0) hx hb d_PM_weightOf_0 (by decide) ?_
  refine lv_istore_n (lv' := [(2, .int 0), (0, .ref (ad 0)), (1, .int a1)]) hx hb d_PM_weightOf_1 rfl hl (by decide) rfl (fun ls hl => ?_)
  refine lv_iconst (v := 0) hx hb d_PM_weightOf_2 (by decide) ?_
  refine lv_istore_n (lv' := [(3, .int 0), (2, .int 0), (0, .ref (ad 0)), (1, .int a1)]) hx hb d_PM_weightOf_3 rfl hl (by decide) rfl (fun ls hl => ?_)
  have k4 : ∀ (n4 : Nat) (x1 : Int32) (x2 : Int32) (x3 : Int32) (h : L_PM_weightOf_4 σ n4 x1 x2 x3 = some out) (ls : Array Slot) (hl : lv_has ls 4 [(0, .ref (ad 0)), (1, .int x1), (2, .int x2), (3, .int x3)]), W p l e (headSpec wl_PM_weightOf ({ frames := 0, cells := 0, slots := 0, locals := 0 } : Room)).room s m (([.ref (ad 0), .int a1] : List Value).toArray) below meth c s.heap [] 0 0 (MQ below (vp_Si (fun r => r = out)) (([.ref (ad 0), .int a1] : List Value).toArray) s 0 0 (fun _ => False)) (F0 m 4 ls []) := by
    intro n4
    induction n4 with
    | zero =>
      intro x1 x2 x3 h
      exact absurd h (by intro z; cases z)
    | succ n4 ih4 =>
      intro x1 x2 x3 h ls hl
      replace h : B_PM_weightOf_4 σ (L_PM_weightOf_4 σ n4) x1 x2 x3 = some out := h
      unfold B_PM_weightOf_4 at h
      refine lv_iload_n hx hb d_PM_weightOf_4 rfl (lv_at hl 3 rfl) ?_
      refine lv_aload_n hx hb d_PM_weightOf_5 rfl (lv_at hl 0 rfl) ?_
      refine gf_PM_19 C hP d_PM_weightOf_6 ?_
      refine gf_PM_84 C hP d_PM_weightOf_9 ?_
      refine lv_icmp_ge (tgt := 47) hx hb d_PM_weightOf_12 (by decide) (fun c1 => ?_) (fun c1 => ?_)
      · rw [if_pos c1] at h
        refine lv_iload_n hx hb d_PM_weightOf_47 rfl (lv_at hl 2 rfl) ?_
        exact W.iret hx hb hr (fun t ht _ => ⟨_, rfl, Option.some.inj h, ht⟩) (fun _ hq => nomatch hq) d_PM_weightOf_48
      · rw [if_neg c1] at h
        refine lv_aload_n hx hb d_PM_weightOf_15 rfl (lv_at hl 0 rfl) ?_
        refine gf_PM_55 C hP d_PM_weightOf_16 ?_
        refine lv_iload_n hx hb d_PM_weightOf_19 rfl (lv_at hl 3 rfl) ?_
        obtain ⟨hin, h⟩ := gd_some h
        refine al_8 C hP hin d_PM_weightOf_20 ?_
        refine lv_iload_n hx hb d_PM_weightOf_21 rfl (lv_at hl 1 rfl) ?_
        refine lv_iushr (v := ush (σ 8 (Int32.toNatClampNeg x3)) x1) hx hb d_PM_weightOf_22 rfl ?_
        refine lv_iconst (v := 1) hx hb d_PM_weightOf_23 (by decide) ?_
        refine lv_iand hx hb d_PM_weightOf_24 ?_
        refine lv_iconst (v := 1) hx hb d_PM_weightOf_25 (by decide) ?_
        refine lv_icmp_ne (tgt := 41) hx hb d_PM_weightOf_26 (by decide) (fun c2 => ?_) (fun c2 => ?_)
        · rw [if_neg c2] at h
          refine lv_iinc (v := x3 + 1) (lv' := [(3, .int (x3 + 1)), (0, .ref (ad 0)), (1, .int x1), (2, .int x2)]) hx hb d_PM_weightOf_41 hl (k := 3) rfl rfl (by decide) rfl (fun ls hl => ?_)
          refine lv_goto (tgt := 4) hx hb d_PM_weightOf_44 (by decide) ?_
          exact ih4 x1 x2 (x3 + 1) h _ (lv_sub hl [1, 2, 3, 0] rfl)
        · rw [if_pos c2] at h
          refine lv_iload_n hx hb d_PM_weightOf_29 rfl (lv_at hl 2 rfl) ?_
          refine lv_aload_n hx hb d_PM_weightOf_30 rfl (lv_at hl 0 rfl) ?_
          refine gf_PM_19 C hP d_PM_weightOf_31 ?_
          refine gf_PM_239 C hP d_PM_weightOf_34 ?_
          refine lv_iload_n hx hb d_PM_weightOf_37 rfl (lv_at hl 3 rfl) ?_
          obtain ⟨hin, h⟩ := gd_some h
          refine al_14 C hP hin d_PM_weightOf_38 ?_
          refine lv_iadd hx hb d_PM_weightOf_39 ?_
          obtain ⟨y3, e_y3, h⟩ := lt1_some h
          refine W.eq (g2 := F0 m 40 ls (.int y3 :: [])) (by rw [e_y3]) ?_
          refine lv_istore_n (lv' := [(2, .int y3), (0, .ref (ad 0)), (1, .int x1), (3, .int x3)]) hx hb d_PM_weightOf_40 rfl hl (by decide) rfl (fun ls hl => ?_)
          refine lv_iinc (v := x3 + 1) (lv' := [(3, .int (x3 + 1)), (2, .int y3), (0, .ref (ad 0)), (1, .int x1)]) hx hb d_PM_weightOf_41 hl (k := 3) rfl rfl (by decide) rfl (fun ls hl => ?_)
          refine lv_goto (tgt := 4) hx hb d_PM_weightOf_44 (by decide) ?_
          exact ih4 x1 y3 (x3 + 1) h _ (lv_sub hl [2, 3, 1, 0] rfl)
  exact k4 _ a1 0 0 h _ (lv_sub hl [2, 3, 1, 0] rfl)
section RC
variable {p : Program} {l : Launch} {e : Env} {R : Room} {s : State} {m : MethodId} {args : Array Value} {below : List Frame} {meth : Method} {c : Code} {H : Heap} {locs : List Loc} {cells slots : Nat} {Q : State → Prop}
variable {cc : ByteArray} {pc : Nat} {ls : Array Slot} {rest : List Value} {G : va_G} {ad : Nat → Nat} {cI cZ : ClassId} {σ : Sg} {own : String}
theorem cl_PM_177 (C : CX "PlaceMoves" cc p s m args c G cI cZ) (hml : c.maxLocals = ls.size) (hP : va_P G clX (wX ad cI cZ σ) H) {x1 : Int32} {r : Int32} (hg : f_PM_weightOf σ x1 = some r) (hR : 0 + 1 ≤ R.frames ∧ 8 + (4 + 11) + 0 ≤ R.locals) (hrest : (rest.map fun v => v.category).sum ≤ 8) (hd : decode cc pc = .ok (.invokevirtual 177, 3)) (hcs : cells + 0 ≤ R.cells ∧ slots + 0 ≤ R.slots) (kk : W p l e R s m args below meth c H locs cells slots Q (F0 m (pc + 3) ls (.int r :: rest))) : W p l e R s m args below meth c H locs cells slots Q (F0 m pc ls (.int x1 :: .ref (ad 0) :: rest)) :=
  vp_callSi (W.runV (As := [.int x1]) (rest := rest) ⟨C.1, C.2.1, hml, C.2.2.1, C.2.2.2.1⟩ (c_PM_weightOf l G ad cI cZ σ x1 r hg) (cwV 1 C.2.2.2.1 (wg_V w_443 w_445 ws_11 w_1 w_446) rfl rfl rfl (by decide +kernel) hR) ⟨PcX.blind, va_recv C.2.2.2.2.1 hP (ci := 0) (q0 := 0) rfl rfl, fun U hU hW => ⟨rfl, by rw [hU]; exact hP, C.2.2.2.2.warm hW⟩⟩ rfl rfl rfl rfl (lv_room hrest) hd hcs) (fun r' e => by subst e; exact kk)
end RC
abbrev wl_PM_isWithin : List Cond := .code ⟨"PlaceMoves", "isWithin", "(III)Z"⟩ prog_1_method_29_code 7 (some FieldType.boolean) :: WG
set_option maxHeartbeats 4000000 in
set_option maxRecDepth 100000 in
theorem c_PM_isWithin (l : Launch) (G : va_G) (ad : Nat → Nat) (cI cZ : ClassId) (σ : Sg) (a1 : Int32) (a2 : Int32) (a3 : Int32) (out : Int32) (h : f_PM_isWithin σ a1 a2 a3 = some out) : Met l ⟨"PlaceMoves", "isWithin", "(III)Z"⟩ wl_PM_isWithin ({ frames := 2, cells := 0, slots := 0, locals := 45 } : Room) (PcX G ad cI cZ σ [.ref (ad 0), .int a1, .int a2, .int a3]) (vp_Si (fun r => r = out)) 0 0 (fun _ => False) := by
  refine Met.ofW (cc := prog_1_method_29_code) (maxL := 7) (ret := (some FieldType.boolean)) (by decide) rfl ?_
  intro p e s m args below meth c s₁ B hml hv
  obtain ⟨rfl, hP, hK⟩ := hv
  have hx := B.exec
  have hb := B.bytes
  have hr := B.returns
  have hts0 := atoms_spec (ws := wl_PM_isWithin) B.pre
  have hts : ∀ w ∈ WG, w.before _ s = true := fun w hw => hts0 w (List.mem_cons_of_mem _ hw)
  have hown : s.vm.findClass "PlaceMoves" = some m.cls := findClass_of_methodNamed B.named
  have hlocks := B.notSynchronized
  have C : CX "PlaceMoves" prog_1_method_29_code p s m _ c G cI cZ := ⟨hx, hb, hown, hts, hK⟩
  have hl := lv_entry ([.ref (ad 0), .int a1, .int a2, .int a3]) (n := 7) (Nat.le_of_ble_eq_true rfl)
  rw [lg_entry_eq]
  generalize (lg_sl ([.ref (ad 0), .int a1, .int a2, .int a3]) ++ List.replicate (7 - (lg_sl ([.ref (ad 0), .int a1, .int a2, .int a3])).length) Slot.unset).toArray = ls at hl ⊢
  have hl : lv_has ls 7 [(0, .ref (ad 0)), (1, .int a1), (2, .int a2), (3, .int a3)] := hl
  unfold f_PM_isWithin at h
  refine lv_iload_n hx hb d_PM_isWithin_0 rfl (lv_at hl 1 rfl) ?_
  refine lv_istore (lv' := [(4, .int a1), (0, .ref (ad 0)), (1, .int a1), (2, .int a2), (3, .int a3)]) hx hb d_PM_isWithin_1 hl (by decide) rfl (fun ls hl => ?_)
  refine lv_iconst (v := 0) hx hb d_PM_isWithin_3 (by decide) ?_
  refine lv_istore (lv' := [(5, .int 0), (4, .int a1), (0, .ref (ad 0)), (1, .int a1), (2, .int a2), (3, .int a3)]) hx hb d_PM_isWithin_4 hl (by decide) rfl (fun ls hl => ?_)
  have k6 : ∀ (n6 : Nat) (x2 : Int32) (x3 : Int32) (x4 : Int32) (x5 : Int32) (h : L_PM_isWithin_6 σ n6 x2 x3 x4 x5 = some out) (ls : Array Slot) (hl : lv_has ls 7 [(0, .ref (ad 0)), (2, .int x2), (3, .int x3), (4, .int x4), (5, .int x5)]), W p l e (headSpec wl_PM_isWithin ({ frames := 2, cells := 0, slots := 0, locals := 45 } : Room)).room s m (([.ref (ad 0), .int a1, .int a2, .int a3] : List Value).toArray) below meth c s.heap [] 0 0 (MQ below (vp_Si (fun r => r = out)) (([.ref (ad 0), .int a1, .int a2, .int a3] : List Value).toArray) s 0 0 (fun _ => False)) (F0 m 6 ls []) := by
    intro n6
    induction n6 with
    | zero =>
      intro x2 x3 x4 x5 h
      exact absurd h (by intro z; cases z)
    | succ n6 ih6 =>
      intro x2 x3 x4 x5 h ls hl
      replace h : B_PM_isWithin_6 σ (L_PM_isWithin_6 σ n6) x2 x3 x4 x5 = some out := h
      unfold B_PM_isWithin_6 at h
      refine lv_iload hx hb d_PM_isWithin_6 (lv_at hl 4 rfl) ?_
      refine lv_bipush (v := 20) hx hb d_PM_isWithin_8 (by decide) ?_
      refine lv_icmp_ge (tgt := 73) hx hb d_PM_isWithin_10 (by decide) (fun c1 => ?_) (fun c1 => ?_)
      · rw [if_pos c1] at h
        refine lv_iconst (v := 0) hx hb d_PM_isWithin_73 (by decide) ?_
        exact W.zret hx hb hr rfl (fun t ht _ => ⟨_, rfl, Option.some.inj h, ht⟩) (fun _ hq => nomatch hq) d_PM_isWithin_74
      · rw [if_neg c1] at h
        refine lv_aload_n hx hb d_PM_isWithin_13 rfl (lv_at hl 0 rfl) ?_
        refine gf_PM_26 C hP d_PM_isWithin_14 ?_
        refine lv_iload hx hb d_PM_isWithin_17 (lv_at hl 3 rfl) ?_
        refine lv_iload_n hx hb d_PM_isWithin_19 rfl (lv_at hl 2 rfl) ?_
        obtain ⟨r2, g_r2, h⟩ := ob_some h
        refine cl_PM_123 (rest := []) C (hml.trans hl.1.symm) hP g_r2 ⟨Nat.le_of_ble_eq_true rfl, Nat.le_of_ble_eq_true rfl⟩ (Nat.le_of_ble_eq_true rfl) d_PM_isWithin_20 ⟨Nat.zero_le _, Nat.zero_le _⟩ ?_
        refine lv_istore (lv' := [(6, .int r2), (0, .ref (ad 0)), (2, .int x2), (3, .int x3), (4, .int x4), (5, .int x5)]) hx hb d_PM_isWithin_23 hl (by decide) rfl (fun ls hl => ?_)
        refine lv_iload hx hb d_PM_isWithin_25 (lv_at hl 0 rfl) ?_
        refine lv_iconst (v := (-1)) hx hb d_PM_isWithin_27 (by decide) ?_
        refine lv_icmp_eq (tgt := 45) hx hb d_PM_isWithin_28 (by decide) (fun c3 => ?_) (fun c3 => ?_)
        · rw [if_pos c3] at h
          refine lv_iconst (v := 0) hx hb d_PM_isWithin_45 (by decide) ?_
          exact W.zret hx hb hr rfl (fun t ht _ => ⟨_, rfl, Option.some.inj h, ht⟩) (fun _ hq => nomatch hq) d_PM_isWithin_46
        · rw [if_neg c3] at h
          refine lv_aload_n hx hb d_PM_isWithin_31 rfl (lv_at hl 1 rfl) ?_
          refine gf_PM_26 C hP d_PM_isWithin_32 ?_
          refine gf_PM_126 C hP d_PM_isWithin_35 ?_
          refine lv_iload hx hb d_PM_isWithin_38 (lv_at hl 0 rfl) ?_
          obtain ⟨hin, h⟩ := gd_some h
          refine al_19 C hP hin d_PM_isWithin_40 ?_
          refine lv_iconst (v := 1) hx hb d_PM_isWithin_41 (by decide) ?_
          refine lv_icmp_eq (tgt := 47) hx hb d_PM_isWithin_42 (by decide) (fun c4 => ?_) (fun c4 => ?_)
          · rw [if_pos c4] at h
            refine lv_aload_n hx hb d_PM_isWithin_47 rfl (lv_at hl 1 rfl) ?_
            refine gf_PM_26 C hP d_PM_isWithin_48 ?_
            refine gf_PM_141 C hP d_PM_isWithin_51 ?_
            refine lv_iload hx hb d_PM_isWithin_54 (lv_at hl 0 rfl) ?_
            obtain ⟨hin, h⟩ := gd_some h
            refine al_20 C hP hin d_PM_isWithin_56 ?_
            obtain ⟨y5, e_y5, h⟩ := lt1_some h
            refine W.eq (g2 := F0 m 57 ls (.int y5 :: [])) (by rw [e_y5]) ?_
            refine lv_istore (lv' := [(4, .int y5), (6, .int r2), (0, .ref (ad 0)), (2, .int x2), (3, .int x3), (5, .int x5)]) hx hb d_PM_isWithin_57 hl (by decide) rfl (fun ls hl => ?_)
            refine lv_iload hx hb d_PM_isWithin_59 (lv_at hl 0 rfl) ?_
            refine lv_iload_n hx hb d_PM_isWithin_61 rfl (lv_at hl 3 rfl) ?_
            refine lv_icmp_ne (tgt := 67) hx hb d_PM_isWithin_62 (by decide) (fun c6 => ?_) (fun c6 => ?_)
            · rw [if_neg c6] at h
              refine lv_iinc (v := x5 + 1) (lv' := [(5, .int (x5 + 1)), (4, .int y5), (6, .int r2), (0, .ref (ad 0)), (2, .int x2), (3, .int x3)]) hx hb d_PM_isWithin_67 hl (k := 5) rfl rfl (by decide) rfl (fun ls hl => ?_)
              refine lv_goto (tgt := 6) hx hb d_PM_isWithin_70 (by decide) ?_
              exact ih6 x2 x3 y5 (x5 + 1) h _ (lv_sub hl [3, 4, 5, 1, 0] rfl)
            · rw [if_pos c6] at h
              refine lv_iconst (v := 1) hx hb d_PM_isWithin_65 (by decide) ?_
              exact W.zret hx hb hr rfl (fun t ht _ => ⟨_, rfl, Option.some.inj h, ht⟩) (fun _ hq => nomatch hq) d_PM_isWithin_66
          · rw [if_neg c4] at h
            refine lv_iconst (v := 0) hx hb d_PM_isWithin_45 (by decide) ?_
            exact W.zret hx hb hr rfl (fun t ht _ => ⟨_, rfl, Option.some.inj h, ht⟩) (fun _ hq => nomatch hq) d_PM_isWithin_46
  exact k6 _ a2 a3 a1 0 h _ (lv_sub hl [2, 4, 5, 1, 0] rfl)
section RC
variable {p : Program} {l : Launch} {e : Env} {R : Room} {s : State} {m : MethodId} {args : Array Value} {below : List Frame} {meth : Method} {c : Code} {H : Heap} {locs : List Loc} {cells slots : Nat} {Q : State → Prop}
variable {cc : ByteArray} {pc : Nat} {ls : Array Slot} {rest : List Value} {G : va_G} {ad : Nat → Nat} {cI cZ : ClassId} {σ : Sg} {own : String}
theorem cl_PM_116 (C : CX "PlaceMoves" cc p s m args c G cI cZ) (hml : c.maxLocals = ls.size) (hP : va_P G clX (wX ad cI cZ σ) H) {x1 : Int32} {x2 : Int32} {x3 : Int32} {r : Int32} (hg : f_PM_isWithin σ x1 x2 x3 = some r) (hR : 2 + 1 ≤ R.frames ∧ 8 + (7 + 11) + 45 ≤ R.locals) (hrest : (rest.map fun v => v.category).sum ≤ 8) (hd : decode cc pc = .ok (.invokevirtual 116, 3)) (hcs : cells + 0 ≤ R.cells ∧ slots + 0 ≤ R.slots) (kk : W p l e R s m args below meth c H locs cells slots Q (F0 m (pc + 3) ls (.int r :: rest))) : W p l e R s m args below meth c H locs cells slots Q (F0 m pc ls (.int x3 :: .int x2 :: .int x1 :: .ref (ad 0) :: rest)) :=
  vp_callSi (W.runV (As := [.int x1, .int x2, .int x3]) (rest := rest) ⟨C.1, C.2.1, hml, C.2.2.1, C.2.2.2.1⟩ (c_PM_isWithin l G ad cI cZ σ x1 x2 x3 r hg) (cwV 3 C.2.2.2.1 (wg_V w_458 w_460 ws_12 w_1 w_461) rfl rfl rfl (by decide +kernel) hR) ⟨PcX.blind, va_recv C.2.2.2.2.1 hP (ci := 0) (q0 := 0) rfl rfl, fun U hU hW => ⟨rfl, by rw [hU]; exact hP, C.2.2.2.2.warm hW⟩⟩ rfl rfl rfl rfl (lv_room hrest) hd hcs) (fun r' e => by subst e; exact kk)
end RC
abbrev wl_Things_isSmaller : List Cond := .code ⟨"PlaceMoves$Things", "isSmaller", "(II)Z"⟩ prog_7_method_3_code 3 (some FieldType.boolean) :: WG
set_option maxHeartbeats 4000000 in
set_option maxRecDepth 100000 in
theorem c_Things_isSmaller (l : Launch) (G : va_G) (ad : Nat → Nat) (cI cZ : ClassId) (σ : Sg) (a1 : Int32) (a2 : Int32) (out : Int32) (h : f_Things_isSmaller σ a1 a2 = some out) : Met l ⟨"PlaceMoves$Things", "isSmaller", "(II)Z"⟩ wl_Things_isSmaller ({ frames := 0, cells := 0, slots := 0, locals := 0 } : Room) (PcX G ad cI cZ σ [.ref (ad 2), .int a1, .int a2]) (vp_Si (fun r => r = out)) 0 0 (fun _ => False) := by
  refine Met.ofW (cc := prog_7_method_3_code) (maxL := 3) (ret := (some FieldType.boolean)) (by decide) rfl ?_
  intro p e s m args below meth c s₁ B hml hv
  obtain ⟨rfl, hP, hK⟩ := hv
  have hx := B.exec
  have hb := B.bytes
  have hr := B.returns
  have hts0 := atoms_spec (ws := wl_Things_isSmaller) B.pre
  have hts : ∀ w ∈ WG, w.before _ s = true := fun w hw => hts0 w (List.mem_cons_of_mem _ hw)
  have hown : s.vm.findClass "PlaceMoves$Things" = some m.cls := findClass_of_methodNamed B.named
  have hlocks := B.notSynchronized
  have C : CX "PlaceMoves$Things" prog_7_method_3_code p s m _ c G cI cZ := ⟨hx, hb, hown, hts, hK⟩
  have hl := lv_entry ([.ref (ad 2), .int a1, .int a2]) (n := 3) (Nat.le_of_ble_eq_true rfl)
  rw [lg_entry_eq]
  generalize (lg_sl ([.ref (ad 2), .int a1, .int a2]) ++ List.replicate (3 - (lg_sl ([.ref (ad 2), .int a1, .int a2])).length) Slot.unset).toArray = ls at hl ⊢
  have hl : lv_has ls 3 [(0, .ref (ad 2)), (1, .int a1), (2, .int a2)] := hl
  unfold f_Things_isSmaller at h
  refine lv_aload_n hx hb d_Things_isSmaller_0 rfl (lv_at hl 0 rfl) ?_
  refine gf_Things_9 C hP d_Things_isSmaller_1 ?_
  refine lv_iload_n hx hb d_Things_isSmaller_4 rfl (lv_at hl 1 rfl) ?_
  obtain ⟨hin, h⟩ := gd_some h
  refine al_11 C hP hin d_Things_isSmaller_5 ?_
  refine lv_aload_n hx hb d_Things_isSmaller_6 rfl (lv_at hl 0 rfl) ?_
  refine gf_Things_9 C hP d_Things_isSmaller_7 ?_
  refine lv_iload_n hx hb d_Things_isSmaller_10 rfl (lv_at hl 2 rfl) ?_
  obtain ⟨hin, h⟩ := gd_some h
  refine al_11 C hP hin d_Things_isSmaller_11 ?_
  refine lv_icmp_ge (tgt := 49) hx hb d_Things_isSmaller_12 (by decide) (fun c1 => ?_) (fun c1 => ?_)
  · rw [if_pos c1] at h
    refine lv_iconst (v := 0) hx hb d_Things_isSmaller_49 (by decide) ?_
    exact W.zret hx hb hr rfl (fun t ht _ => ⟨_, rfl, Option.some.inj h, ht⟩) (fun _ hq => nomatch hq) d_Things_isSmaller_50
  · rw [if_neg c1] at h
    refine lv_aload_n hx hb d_Things_isSmaller_15 rfl (lv_at hl 0 rfl) ?_
    refine gf_Things_15 C hP d_Things_isSmaller_16 ?_
    refine lv_iload_n hx hb d_Things_isSmaller_19 rfl (lv_at hl 1 rfl) ?_
    obtain ⟨hin, h⟩ := gd_some h
    refine al_12 C hP hin d_Things_isSmaller_20 ?_
    refine lv_aload_n hx hb d_Things_isSmaller_21 rfl (lv_at hl 0 rfl) ?_
    refine gf_Things_15 C hP d_Things_isSmaller_22 ?_
    refine lv_iload_n hx hb d_Things_isSmaller_25 rfl (lv_at hl 2 rfl) ?_
    obtain ⟨hin, h⟩ := gd_some h
    refine al_12 C hP hin d_Things_isSmaller_26 ?_
    refine lv_icmp_ge (tgt := 49) hx hb d_Things_isSmaller_27 (by decide) (fun c2 => ?_) (fun c2 => ?_)
    · rw [if_pos c2] at h
      refine lv_iconst (v := 0) hx hb d_Things_isSmaller_49 (by decide) ?_
      exact W.zret hx hb hr rfl (fun t ht _ => ⟨_, rfl, Option.some.inj h, ht⟩) (fun _ hq => nomatch hq) d_Things_isSmaller_50
    · rw [if_neg c2] at h
      refine lv_aload_n hx hb d_Things_isSmaller_30 rfl (lv_at hl 0 rfl) ?_
      refine gf_Things_18 C hP d_Things_isSmaller_31 ?_
      refine lv_iload_n hx hb d_Things_isSmaller_34 rfl (lv_at hl 1 rfl) ?_
      obtain ⟨hin, h⟩ := gd_some h
      refine al_13 C hP hin d_Things_isSmaller_35 ?_
      refine lv_aload_n hx hb d_Things_isSmaller_36 rfl (lv_at hl 0 rfl) ?_
      refine gf_Things_18 C hP d_Things_isSmaller_37 ?_
      refine lv_iload_n hx hb d_Things_isSmaller_40 rfl (lv_at hl 2 rfl) ?_
      obtain ⟨hin, h⟩ := gd_some h
      refine al_13 C hP hin d_Things_isSmaller_41 ?_
      refine lv_icmp_ge (tgt := 49) hx hb d_Things_isSmaller_42 (by decide) (fun c3 => ?_) (fun c3 => ?_)
      · rw [if_pos c3] at h
        refine lv_iconst (v := 0) hx hb d_Things_isSmaller_49 (by decide) ?_
        exact W.zret hx hb hr rfl (fun t ht _ => ⟨_, rfl, Option.some.inj h, ht⟩) (fun _ hq => nomatch hq) d_Things_isSmaller_50
      · rw [if_neg c3] at h
        refine lv_iconst (v := 1) hx hb d_Things_isSmaller_45 (by decide) ?_
        refine lv_goto (tgt := 50) hx hb d_Things_isSmaller_46 (by decide) ?_
        exact W.zret hx hb hr rfl (fun t ht _ => ⟨_, rfl, Option.some.inj h, ht⟩) (fun _ hq => nomatch hq) d_Things_isSmaller_50
section RC
variable {p : Program} {l : Launch} {e : Env} {R : Room} {s : State} {m : MethodId} {args : Array Value} {below : List Frame} {meth : Method} {c : Code} {H : Heap} {locs : List Loc} {cells slots : Nat} {Q : State → Prop}
variable {cc : ByteArray} {pc : Nat} {ls : Array Slot} {rest : List Value} {G : va_G} {ad : Nat → Nat} {cI cZ : ClassId} {σ : Sg} {own : String}
theorem cl_PM_119 (C : CX "PlaceMoves" cc p s m args c G cI cZ) (hml : c.maxLocals = ls.size) (hP : va_P G clX (wX ad cI cZ σ) H) {x1 : Int32} {x2 : Int32} {r : Int32} (hg : f_Things_isSmaller σ x1 x2 = some r) (hR : 0 + 1 ≤ R.frames ∧ 8 + (3 + 11) + 0 ≤ R.locals) (hrest : (rest.map fun v => v.category).sum ≤ 8) (hd : decode cc pc = .ok (.invokevirtual 119, 3)) (hcs : cells + 0 ≤ R.cells ∧ slots + 0 ≤ R.slots) (kk : W p l e R s m args below meth c H locs cells slots Q (F0 m (pc + 3) ls (.int r :: rest))) : W p l e R s m args below meth c H locs cells slots Q (F0 m pc ls (.int x2 :: .int x1 :: .ref (ad 2) :: rest)) :=
  vp_callSi (W.runV (As := [.int x1, .int x2]) (rest := rest) ⟨C.1, C.2.1, hml, C.2.2.1, C.2.2.2.1⟩ (c_Things_isSmaller l G ad cI cZ σ x1 x2 r hg) (cwV 2 C.2.2.2.1 (wg_V w_462 w_463 w_464 w_3 w_465) rfl rfl rfl (by decide +kernel) hR) ⟨PcX.blind, va_recv C.2.2.2.2.1 hP (ci := 2) (q0 := 2) rfl rfl, fun U hU hW => ⟨rfl, by rw [hU]; exact hP, C.2.2.2.2.warm hW⟩⟩ rfl rfl rfl rfl (lv_room hrest) hd hcs) (fun r' e => by subst e; exact kk)
end RC
abbrev wl_PM_standsSince : List Cond := .code ⟨"PlaceMoves", "standsSince", "(II)I"⟩ prog_1_method_28_code 7 (some FieldType.int) :: WG
set_option maxHeartbeats 4000000 in
set_option maxRecDepth 100000 in
theorem c_PM_standsSince (l : Launch) (G : va_G) (ad : Nat → Nat) (cI cZ : ClassId) (σ : Sg) (a1 : Int32) (a2 : Int32) (out : Int32) (h : f_PM_standsSince σ a1 a2 = some out) : Met l ⟨"PlaceMoves", "standsSince", "(II)I"⟩ wl_PM_standsSince ({ frames := 2, cells := 0, slots := 0, locals := 45 } : Room) (PcX G ad cI cZ σ [.ref (ad 0), .int a1, .int a2]) (vp_Si (fun r => r = out)) 0 0 (fun _ => False) := by
  refine Met.ofW (cc := prog_1_method_28_code) (maxL := 7) (ret := (some FieldType.int)) (by decide) rfl ?_
  intro p e s m args below meth c s₁ B hml hv
  obtain ⟨rfl, hP, hK⟩ := hv
  have hx := B.exec
  have hb := B.bytes
  have hr := B.returns
  have hts0 := atoms_spec (ws := wl_PM_standsSince) B.pre
  have hts : ∀ w ∈ WG, w.before _ s = true := fun w hw => hts0 w (List.mem_cons_of_mem _ hw)
  have hown : s.vm.findClass "PlaceMoves" = some m.cls := findClass_of_methodNamed B.named
  have hlocks := B.notSynchronized
  have C : CX "PlaceMoves" prog_1_method_28_code p s m _ c G cI cZ := ⟨hx, hb, hown, hts, hK⟩
  have hl := lv_entry ([.ref (ad 0), .int a1, .int a2]) (n := 7) (Nat.le_of_ble_eq_true rfl)
  rw [lg_entry_eq]
  generalize (lg_sl ([.ref (ad 0), .int a1, .int a2]) ++ List.replicate (7 - (lg_sl ([.ref (ad 0), .int a1, .int a2])).length) Slot.unset).toArray = ls at hl ⊢
  have hl : lv_has ls 7 [(0, .ref (ad 0)), (1, .int a1), (2, .int a2)] := hl
  unfold f_PM_standsSince at h
  refine lv_iconst (v := (-1)) hx hb d_PM_standsSince_0 (by decide) ?_
  refine lv_istore_n (lv' := [(3, .int ((-1))), (0, .ref (ad 0)), (1, .int a1), (2, .int a2)]) hx hb d_PM_standsSince_1 rfl hl (by decide) rfl (fun ls hl => ?_)
  refine lv_iload_n hx hb d_PM_standsSince_2 rfl (lv_at hl 2 rfl) ?_
  refine lv_istore (lv' := [(4, .int a1), (3, .int ((-1))), (0, .ref (ad 0)), (1, .int a1), (2, .int a2)]) hx hb d_PM_standsSince_3 hl (by decide) rfl (fun ls hl => ?_)
  refine lv_iconst (v := 0) hx hb d_PM_standsSince_5 (by decide) ?_
  refine lv_istore (lv' := [(5, .int 0), (4, .int a1), (3, .int ((-1))), (0, .ref (ad 0)), (1, .int a1), (2, .int a2)]) hx hb d_PM_standsSince_6 hl (by decide) rfl (fun ls hl => ?_)
  have k8 : ∀ (n8 : Nat) (x2 : Int32) (x3 : Int32) (x4 : Int32) (x5 : Int32) (h : L_PM_standsSince_8 σ n8 x2 x3 x4 x5 = some out) (ls : Array Slot) (hl : lv_has ls 7 [(0, .ref (ad 0)), (2, .int x2), (3, .int x3), (4, .int x4), (5, .int x5)]), W p l e (headSpec wl_PM_standsSince ({ frames := 2, cells := 0, slots := 0, locals := 45 } : Room)).room s m (([.ref (ad 0), .int a1, .int a2] : List Value).toArray) below meth c s.heap [] 0 0 (MQ below (vp_Si (fun r => r = out)) (([.ref (ad 0), .int a1, .int a2] : List Value).toArray) s 0 0 (fun _ => False)) (F0 m 8 ls []) := by
    intro n8
    induction n8 with
    | zero =>
      intro x2 x3 x4 x5 h
      exact absurd h (by intro z; cases z)
    | succ n8 ih8 =>
      intro x2 x3 x4 x5 h ls hl
      replace h : B_PM_standsSince_8 σ (L_PM_standsSince_8 σ n8) x2 x3 x4 x5 = some out := h
      unfold B_PM_standsSince_8 at h
      refine lv_iload hx hb d_PM_standsSince_8 (lv_at hl 4 rfl) ?_
      refine lv_bipush (v := 20) hx hb d_PM_standsSince_10 (by decide) ?_
      refine lv_icmp_ge (tgt := 84) hx hb d_PM_standsSince_12 (by decide) (fun c1 => ?_) (fun c1 => ?_)
      · rw [if_pos c1] at h
        refine lv_iload_n hx hb d_PM_standsSince_84 rfl (lv_at hl 2 rfl) ?_
        exact W.iret hx hb hr (fun t ht _ => ⟨_, rfl, Option.some.inj h, ht⟩) (fun _ hq => nomatch hq) d_PM_standsSince_85
      · rw [if_neg c1] at h
        refine lv_aload_n hx hb d_PM_standsSince_15 rfl (lv_at hl 0 rfl) ?_
        refine gf_PM_26 C hP d_PM_standsSince_16 ?_
        refine lv_iload hx hb d_PM_standsSince_19 (lv_at hl 3 rfl) ?_
        refine lv_iload_n hx hb d_PM_standsSince_21 rfl (lv_at hl 1 rfl) ?_
        obtain ⟨r2, g_r2, h⟩ := ob_some h
        refine cl_PM_123 (rest := []) C (hml.trans hl.1.symm) hP g_r2 ⟨Nat.le_of_ble_eq_true rfl, Nat.le_of_ble_eq_true rfl⟩ (Nat.le_of_ble_eq_true rfl) d_PM_standsSince_22 ⟨Nat.zero_le _, Nat.zero_le _⟩ ?_
        refine lv_istore (lv' := [(6, .int r2), (0, .ref (ad 0)), (2, .int x2), (3, .int x3), (4, .int x4), (5, .int x5)]) hx hb d_PM_standsSince_25 hl (by decide) rfl (fun ls hl => ?_)
        refine lv_iload hx hb d_PM_standsSince_27 (lv_at hl 0 rfl) ?_
        refine lv_iconst (v := (-1)) hx hb d_PM_standsSince_29 (by decide) ?_
        refine lv_icmp_ne (tgt := 35) hx hb d_PM_standsSince_30 (by decide) (fun c3 => ?_) (fun c3 => ?_)
        · rw [if_neg c3] at h
          refine lv_iload_n hx hb d_PM_standsSince_35 rfl (lv_at hl 3 rfl) ?_
          refine lv_aload_n hx hb d_PM_standsSince_36 rfl (lv_at hl 1 rfl) ?_
          refine gf_PM_26 C hP d_PM_standsSince_37 ?_
          refine gf_PM_138 C hP d_PM_standsSince_40 ?_
          refine lv_iload hx hb d_PM_standsSince_43 (lv_at hl 0 rfl) ?_
          obtain ⟨hin, h⟩ := gd_some h
          refine al_18 C hP hin d_PM_standsSince_45 ?_
          refine mm_PM_205 (rest := []) C (hml.trans hl.1.symm) ⟨Nat.le_of_ble_eq_true rfl, Nat.le_of_ble_eq_true rfl⟩ (Nat.le_of_ble_eq_true rfl) d_PM_standsSince_46 ⟨Nat.zero_le _, Nat.zero_le _⟩ ?_
          obtain ⟨y4, e_y4, h⟩ := lt1_some h
          refine W.eq (g2 := F0 m 49 ls (.int y4 :: [])) (by rw [e_y4]) ?_
          refine lv_istore_n (lv' := [(3, .int y4), (6, .int r2), (0, .ref (ad 0)), (2, .int x2), (4, .int x4), (5, .int x5)]) hx hb d_PM_standsSince_49 rfl hl (by decide) rfl (fun ls hl => ?_)
          refine lv_aload_n hx hb d_PM_standsSince_50 rfl (lv_at hl 2 rfl) ?_
          refine gf_PM_26 C hP d_PM_standsSince_51 ?_
          refine gf_PM_126 C hP d_PM_standsSince_54 ?_
          refine lv_iload hx hb d_PM_standsSince_57 (lv_at hl 1 rfl) ?_
          obtain ⟨hin, h⟩ := gd_some h
          refine al_19 C hP hin d_PM_standsSince_59 ?_
          refine lv_iconst (v := 1) hx hb d_PM_standsSince_60 (by decide) ?_
          refine lv_icmp_eq (tgt := 66) hx hb d_PM_standsSince_61 (by decide) (fun c5 => ?_) (fun c5 => ?_)
          · rw [if_pos c5] at h
            refine lv_aload_n hx hb d_PM_standsSince_66 rfl (lv_at hl 2 rfl) ?_
            refine gf_PM_26 C hP d_PM_standsSince_67 ?_
            refine gf_PM_141 C hP d_PM_standsSince_70 ?_
            refine lv_iload hx hb d_PM_standsSince_73 (lv_at hl 1 rfl) ?_
            obtain ⟨hin, h⟩ := gd_some h
            refine al_20 C hP hin d_PM_standsSince_75 ?_
            obtain ⟨y6, e_y6, h⟩ := lt1_some h
            refine W.eq (g2 := F0 m 76 ls (.int y6 :: [])) (by rw [e_y6]) ?_
            refine lv_istore (lv' := [(4, .int y6), (3, .int y4), (6, .int r2), (0, .ref (ad 0)), (2, .int x2), (5, .int x5)]) hx hb d_PM_standsSince_76 hl (by decide) rfl (fun ls hl => ?_)
            refine lv_iinc (v := x5 + 1) (lv' := [(5, .int (x5 + 1)), (4, .int y6), (3, .int y4), (6, .int r2), (0, .ref (ad 0)), (2, .int x2)]) hx hb d_PM_standsSince_78 hl (k := 5) rfl rfl (by decide) rfl (fun ls hl => ?_)
            refine lv_goto (tgt := 8) hx hb d_PM_standsSince_81 (by decide) ?_
            exact ih8 x2 y4 y6 (x5 + 1) h _ (lv_sub hl [4, 5, 2, 1, 0] rfl)
          · rw [if_neg c5] at h
            refine lv_iload_n hx hb d_PM_standsSince_64 rfl (lv_at hl 0 rfl) ?_
            exact W.iret hx hb hr (fun t ht _ => ⟨_, rfl, Option.some.inj h, ht⟩) (fun _ hq => nomatch hq) d_PM_standsSince_65
        · rw [if_pos c3] at h
          refine lv_iload_n hx hb d_PM_standsSince_33 rfl (lv_at hl 3 rfl) ?_
          exact W.iret hx hb hr (fun t ht _ => ⟨_, rfl, Option.some.inj h, ht⟩) (fun _ hq => nomatch hq) d_PM_standsSince_34
  exact k8 _ a2 ((-1)) a1 0 h _ (lv_sub hl [3, 5, 2, 1, 0] rfl)
section RC
variable {p : Program} {l : Launch} {e : Env} {R : Room} {s : State} {m : MethodId} {args : Array Value} {below : List Frame} {meth : Method} {c : Code} {H : Heap} {locs : List Loc} {cells slots : Nat} {Q : State → Prop}
variable {cc : ByteArray} {pc : Nat} {ls : Array Slot} {rest : List Value} {G : va_G} {ad : Nat → Nat} {cI cZ : ClassId} {σ : Sg} {own : String}
theorem cl_PM_129 (C : CX "PlaceMoves" cc p s m args c G cI cZ) (hml : c.maxLocals = ls.size) (hP : va_P G clX (wX ad cI cZ σ) H) {x1 : Int32} {x2 : Int32} {r : Int32} (hg : f_PM_standsSince σ x1 x2 = some r) (hR : 2 + 1 ≤ R.frames ∧ 8 + (7 + 11) + 45 ≤ R.locals) (hrest : (rest.map fun v => v.category).sum ≤ 8) (hd : decode cc pc = .ok (.invokevirtual 129, 3)) (hcs : cells + 0 ≤ R.cells ∧ slots + 0 ≤ R.slots) (kk : W p l e R s m args below meth c H locs cells slots Q (F0 m (pc + 3) ls (.int r :: rest))) : W p l e R s m args below meth c H locs cells slots Q (F0 m pc ls (.int x2 :: .int x1 :: .ref (ad 0) :: rest)) :=
  vp_callSi (W.runV (As := [.int x1, .int x2]) (rest := rest) ⟨C.1, C.2.1, hml, C.2.2.1, C.2.2.2.1⟩ (c_PM_standsSince l G ad cI cZ σ x1 x2 r hg) (cwV 2 C.2.2.2.1 (wg_V w_487 w_489 ws_13 w_1 w_490) rfl rfl rfl (by decide +kernel) hR) ⟨PcX.blind, va_recv C.2.2.2.2.1 hP (ci := 0) (q0 := 0) rfl rfl, fun U hU hW => ⟨rfl, by rw [hU]; exact hP, C.2.2.2.2.warm hW⟩⟩ rfl rfl rfl rfl (lv_room hrest) hd hcs) (fun r' e => by subst e; exact kk)
end RC
abbrev wl_Doors_goesTurned : List Cond := .code ⟨"PlaceMoves$Doors", "goesTurned", "(JJJJ)Z"⟩ prog_2_method_4_code 14 (some FieldType.boolean) :: WG
set_option maxHeartbeats 4000000 in
set_option maxRecDepth 100000 in
theorem c_Doors_goesTurned (l : Launch) (G : va_G) (ad : Nat → Nat) (cI cZ : ClassId) (σ : Sg) (a0 : Int64) (a2 : Int64) (a4 : Int64) (a6 : Int64) (out : Int32) (h : f_Doors_goesTurned σ a0 a2 a4 a6 = some out) : Met l ⟨"PlaceMoves$Doors", "goesTurned", "(JJJJ)Z"⟩ wl_Doors_goesTurned ({ frames := 0, cells := 0, slots := 0, locals := 0 } : Room) (PcX G ad cI cZ σ [.long a0, .long a2, .long a4, .long a6]) (vp_Si (fun r => r = out)) 0 0 (fun _ => False) := by
  refine Met.ofW (cc := prog_2_method_4_code) (maxL := 14) (ret := (some FieldType.boolean)) (by decide) rfl ?_
  intro p e s m args below meth c s₁ B hml hv
  obtain ⟨rfl, hP, hK⟩ := hv
  have hx := B.exec
  have hb := B.bytes
  have hr := B.returns
  have hts0 := atoms_spec (ws := wl_Doors_goesTurned) B.pre
  have hts : ∀ w ∈ WG, w.before _ s = true := fun w hw => hts0 w (List.mem_cons_of_mem _ hw)
  have hown : s.vm.findClass "PlaceMoves$Doors" = some m.cls := findClass_of_methodNamed B.named
  have hlocks := B.notSynchronized
  have C : CX "PlaceMoves$Doors" prog_2_method_4_code p s m _ c G cI cZ := ⟨hx, hb, hown, hts, hK⟩
  have hl := lv_entry ([.long a0, .long a2, .long a4, .long a6]) (n := 14) (Nat.le_of_ble_eq_true rfl)
  rw [lg_entry_eq]
  generalize (lg_sl ([.long a0, .long a2, .long a4, .long a6]) ++ List.replicate (14 - (lg_sl ([.long a0, .long a2, .long a4, .long a6])).length) Slot.unset).toArray = ls at hl ⊢
  have hl : lv_has ls 14 [(0, .long a0), (2, .long a2), (4, .long a4), (6, .long a6)] := hl
  unfold f_Doors_goesTurned at h
  refine lv_lload_n hx hb d_Doors_goesTurned_0 rfl (lv_at hl 0 rfl) ?_
  refine lv_lload_n hx hb d_Doors_goesTurned_1 rfl (lv_at hl 1 rfl) ?_
  refine lv_ladd hx hb d_Doors_goesTurned_2 ?_
  refine lv_lload hx hb d_Doors_goesTurned_3 (lv_at hl 2 rfl) ?_
  refine lv_lload hx hb d_Doors_goesTurned_5 (lv_at hl 3 rfl) ?_
  refine lv_lsub hx hb d_Doors_goesTurned_7 ?_
  refine lv_lmul hx hb d_Doors_goesTurned_8 ?_
  obtain ⟨y1, e_y1, h⟩ := lt1_some h
  refine W.eq (g2 := F0 m 9 ls (.long y1 :: [])) (by rw [e_y1]) ?_
  refine lv_lstore (lv' := [(8, .long y1), (0, .long a0), (2, .long a2), (4, .long a4), (6, .long a6)]) hx hb d_Doors_goesTurned_9 hl (by decide) rfl (fun ls hl => ?_)
  refine lv_lload_n hx hb d_Doors_goesTurned_11 rfl (lv_at hl 1 rfl) ?_
  refine lv_lload_n hx hb d_Doors_goesTurned_12 rfl (lv_at hl 2 rfl) ?_
  refine lv_lsub hx hb d_Doors_goesTurned_13 ?_
  refine lv_lload hx hb d_Doors_goesTurned_14 (lv_at hl 3 rfl) ?_
  refine lv_lload hx hb d_Doors_goesTurned_16 (lv_at hl 4 rfl) ?_
  refine lv_ladd hx hb d_Doors_goesTurned_18 ?_
  refine lv_lmul hx hb d_Doors_goesTurned_19 ?_
  obtain ⟨y2, e_y2, h⟩ := lt1_some h
  refine W.eq (g2 := F0 m 20 ls (.long y2 :: [])) (by rw [e_y2]) ?_
  refine lv_lstore (lv' := [(10, .long y2), (8, .long y1), (0, .long a0), (2, .long a2), (4, .long a4), (6, .long a6)]) hx hb d_Doors_goesTurned_20 hl (by decide) rfl (fun ls hl => ?_)
  refine lv_lload hx hb d_Doors_goesTurned_22 (lv_at hl 4 rfl) ?_
  refine lv_lload hx hb d_Doors_goesTurned_24 (lv_at hl 4 rfl) ?_
  refine lv_lmul hx hb d_Doors_goesTurned_26 ?_
  refine lv_lload hx hb d_Doors_goesTurned_27 (lv_at hl 5 rfl) ?_
  refine lv_lload hx hb d_Doors_goesTurned_29 (lv_at hl 5 rfl) ?_
  refine lv_lmul hx hb d_Doors_goesTurned_31 ?_
  refine lv_lsub hx hb d_Doors_goesTurned_32 ?_
  obtain ⟨y3, e_y3, h⟩ := lt1_some h
  refine W.eq (g2 := F0 m 33 ls (.long y3 :: [])) (by rw [e_y3]) ?_
  refine lv_lstore (lv' := [(12, .long y3), (10, .long y2), (8, .long y1), (0, .long a0), (2, .long a2), (4, .long a4), (6, .long a6)]) hx hb d_Doors_goesTurned_33 hl (by decide) rfl (fun ls hl => ?_)
  refine lv_lload hx hb d_Doors_goesTurned_35 (lv_at hl 2 rfl) ?_
  refine lv_lload hx hb d_Doors_goesTurned_37 (lv_at hl 2 rfl) ?_
  refine lv_lmul hx hb d_Doors_goesTurned_39 ?_
  refine lv_lload hx hb d_Doors_goesTurned_40 (lv_at hl 1 rfl) ?_
  refine lv_lload hx hb d_Doors_goesTurned_42 (lv_at hl 1 rfl) ?_
  refine lv_lmul hx hb d_Doors_goesTurned_44 ?_
  refine lv_ladd hx hb d_Doors_goesTurned_45 ?_
  refine lv_ldc2 (v := 2) hx hb hown (hts _ w_532) d_Doors_goesTurned_46 ?_
  refine lv_lload hx hb d_Doors_goesTurned_49 (lv_at hl 0 rfl) ?_
  refine lv_lmul hx hb d_Doors_goesTurned_51 ?_
  refine lv_lload hx hb d_Doors_goesTurned_52 (lv_at hl 0 rfl) ?_
  refine lv_lmul hx hb d_Doors_goesTurned_54 ?_
  refine W.lcmp hx hb d_Doors_goesTurned_55 ?_
  refine lv_if_lt (tgt := 63) hx hb d_Doors_goesTurned_56 (by decide) (fun c4 => ?_) (fun c4 => ?_)
  · rw [if_pos c4] at h
    refine lv_iconst (v := 0) hx hb d_Doors_goesTurned_63 (by decide) ?_
    exact W.zret hx hb hr rfl (fun t ht _ => ⟨_, rfl, Option.some.inj h, ht⟩) (fun _ hq => nomatch hq) d_Doors_goesTurned_64
  · rw [if_neg c4] at h
    refine lv_iconst (v := 1) hx hb d_Doors_goesTurned_59 (by decide) ?_
    refine lv_goto (tgt := 64) hx hb d_Doors_goesTurned_60 (by decide) ?_
    exact W.zret hx hb hr rfl (fun t ht _ => ⟨_, rfl, Option.some.inj h, ht⟩) (fun _ hq => nomatch hq) d_Doors_goesTurned_64
section RC
variable {p : Program} {l : Launch} {e : Env} {R : Room} {s : State} {m : MethodId} {args : Array Value} {below : List Frame} {meth : Method} {c : Code} {H : Heap} {locs : List Loc} {cells slots : Nat} {Q : State → Prop}
variable {cc : ByteArray} {pc : Nat} {ls : Array Slot} {rest : List Value} {G : va_G} {ad : Nat → Nat} {cI cZ : ClassId} {σ : Sg} {own : String}
theorem cl_Doors_37 (C : CX "PlaceMoves$Doors" cc p s m args c G cI cZ) (hml : c.maxLocals = ls.size) (hP : va_P G clX (wX ad cI cZ σ) H) {x0 : Int64} {x2 : Int64} {x4 : Int64} {x6 : Int64} {r : Int32} (hg : f_Doors_goesTurned σ x0 x2 x4 x6 = some r) (hR : 0 + 1 ≤ R.frames ∧ 8 + (14 + 11) + 0 ≤ R.locals) (hrest : (rest.map fun v => v.category).sum ≤ 8) (hd : decode cc pc = .ok (.invokestatic 37, 3)) (hcs : cells + 0 ≤ R.cells ∧ slots + 0 ≤ R.slots) (kk : W p l e R s m args below meth c H locs cells slots Q (F0 m (pc + 3) ls (.int r :: rest))) : W p l e R s m args below meth c H locs cells slots Q (F0 m pc ls (.long x6 :: .long x4 :: .long x2 :: .long x0 :: rest)) :=
  vp_callSi (W.runS (As := [.long x0, .long x2, .long x4, .long x6]) (rest := rest) ⟨C.1, C.2.1, hml, C.2.2.1, C.2.2.2.1⟩ (c_Doors_goesTurned l G ad cI cZ σ x0 x2 x4 x6 r hg) (va_cwS 4 C.2.2.2.1 (wg_S w_529 w_530 w_5 w_531) rfl rfl rfl (by decide +kernel) hR) ⟨PcX.blind, fun U hU hW => ⟨rfl, by rw [hU]; exact hP, C.2.2.2.2.warm hW⟩⟩ rfl rfl rfl rfl (lv_room hrest) hd hcs) (fun r' e => by subst e; exact kk)
end RC
abbrev wl_Doors_letsThrough : List Cond := .code ⟨"PlaceMoves$Doors", "letsThrough", "(III)Z"⟩ prog_2_method_3_code 4 (some FieldType.boolean) :: WG
set_option maxHeartbeats 4000000 in
set_option maxRecDepth 100000 in
theorem c_Doors_letsThrough (l : Launch) (G : va_G) (ad : Nat → Nat) (cI cZ : ClassId) (σ : Sg) (a1 : Int32) (a2 : Int32) (a3 : Int32) (out : Int32) (h : f_Doors_letsThrough σ a1 a2 a3 = some out) : Met l ⟨"PlaceMoves$Doors", "letsThrough", "(III)Z"⟩ wl_Doors_letsThrough ({ frames := 1, cells := 0, slots := 0, locals := 33 } : Room) (PcX G ad cI cZ σ [.ref (ad 4), .int a1, .int a2, .int a3]) (vp_Si (fun r => r = out)) 0 0 (fun _ => False) := by
  refine Met.ofW (cc := prog_2_method_3_code) (maxL := 4) (ret := (some FieldType.boolean)) (by decide) rfl ?_
  intro p e s m args below meth c s₁ B hml hv
  obtain ⟨rfl, hP, hK⟩ := hv
  have hx := B.exec
  have hb := B.bytes
  have hr := B.returns
  have hts0 := atoms_spec (ws := wl_Doors_letsThrough) B.pre
  have hts : ∀ w ∈ WG, w.before _ s = true := fun w hw => hts0 w (List.mem_cons_of_mem _ hw)
  have hown : s.vm.findClass "PlaceMoves$Doors" = some m.cls := findClass_of_methodNamed B.named
  have hlocks := B.notSynchronized
  have C : CX "PlaceMoves$Doors" prog_2_method_3_code p s m _ c G cI cZ := ⟨hx, hb, hown, hts, hK⟩
  have hl := lv_entry ([.ref (ad 4), .int a1, .int a2, .int a3]) (n := 4) (Nat.le_of_ble_eq_true rfl)
  rw [lg_entry_eq]
  generalize (lg_sl ([.ref (ad 4), .int a1, .int a2, .int a3]) ++ List.replicate (4 - (lg_sl ([.ref (ad 4), .int a1, .int a2, .int a3])).length) Slot.unset).toArray = ls at hl ⊢
  have hl : lv_has ls 4 [(0, .ref (ad 4)), (1, .int a1), (2, .int a2), (3, .int a3)] := hl
  unfold f_Doors_letsThrough at h
  refine lv_iload_n hx hb d_Doors_letsThrough_0 rfl (lv_at hl 3 rfl) ?_
  refine lv_aload_n hx hb d_Doors_letsThrough_1 rfl (lv_at hl 0 rfl) ?_
  refine gf_Doors_21 C hP d_Doors_letsThrough_2 ?_
  refine lv_iload_n hx hb d_Doors_letsThrough_5 rfl (lv_at hl 1 rfl) ?_
  obtain ⟨hin, h⟩ := gd_some h
  refine al_24 C hP hin d_Doors_letsThrough_6 ?_
  refine lv_icmp_le (tgt := 12) hx hb d_Doors_letsThrough_7 (by decide) (fun c1 => ?_) (fun c1 => ?_)
  · rw [if_pos c1] at h
    refine lv_iload_n hx hb d_Doors_letsThrough_12 rfl (lv_at hl 2 rfl) ?_
    refine lv_aload_n hx hb d_Doors_letsThrough_13 rfl (lv_at hl 0 rfl) ?_
    refine gf_Doors_18 C hP d_Doors_letsThrough_14 ?_
    refine lv_iload_n hx hb d_Doors_letsThrough_17 rfl (lv_at hl 1 rfl) ?_
    obtain ⟨hin, h⟩ := gd_some h
    refine al_23 C hP hin d_Doors_letsThrough_18 ?_
    refine lv_icmp_le (tgt := 46) hx hb d_Doors_letsThrough_19 (by decide) (fun c2 => ?_) (fun c2 => ?_)
    · rw [if_pos c2] at h
      refine lv_iconst (v := 1) hx hb d_Doors_letsThrough_46 (by decide) ?_
      refine lv_goto (tgt := 51) hx hb d_Doors_letsThrough_47 (by decide) ?_
      exact W.zret hx hb hr rfl (fun t ht _ => ⟨_, rfl, Option.some.inj h, ht⟩) (fun _ hq => nomatch hq) d_Doors_letsThrough_51
    · rw [if_neg c2] at h
      refine lv_aload_n hx hb d_Doors_letsThrough_22 rfl (lv_at hl 0 rfl) ?_
      refine gf_Doors_18 C hP d_Doors_letsThrough_23 ?_
      refine lv_iload_n hx hb d_Doors_letsThrough_26 rfl (lv_at hl 1 rfl) ?_
      obtain ⟨hin, h⟩ := gd_some h
      refine al_23 C hP hin d_Doors_letsThrough_27 ?_
      refine lv_i2l (v := Int32.toInt64 (σ 23 (Int32.toNatClampNeg a1))) hx hb d_Doors_letsThrough_28 rfl ?_
      refine lv_aload_n hx hb d_Doors_letsThrough_29 rfl (lv_at hl 0 rfl) ?_
      refine gf_Doors_21 C hP d_Doors_letsThrough_30 ?_
      refine lv_iload_n hx hb d_Doors_letsThrough_33 rfl (lv_at hl 1 rfl) ?_
      obtain ⟨hin, h⟩ := gd_some h
      refine al_24 C hP hin d_Doors_letsThrough_34 ?_
      refine lv_i2l (v := Int32.toInt64 (σ 24 (Int32.toNatClampNeg a1))) hx hb d_Doors_letsThrough_35 rfl ?_
      refine lv_iload_n hx hb d_Doors_letsThrough_36 rfl (lv_at hl 2 rfl) ?_
      refine lv_i2l (v := Int32.toInt64 a2) hx hb d_Doors_letsThrough_37 rfl ?_
      refine lv_iload_n hx hb d_Doors_letsThrough_38 rfl (lv_at hl 3 rfl) ?_
      refine lv_i2l (v := Int32.toInt64 a3) hx hb d_Doors_letsThrough_39 rfl ?_
      obtain ⟨r3, g_r3, h⟩ := ob_some h
      refine cl_Doors_37 (rest := []) C (hml.trans hl.1.symm) hP g_r3 ⟨Nat.le_of_ble_eq_true rfl, Nat.le_of_ble_eq_true rfl⟩ (Nat.le_of_ble_eq_true rfl) d_Doors_letsThrough_40 ⟨Nat.zero_le _, Nat.zero_le _⟩ ?_
      refine lv_if_eq (tgt := 50) hx hb d_Doors_letsThrough_43 (by decide) (fun c4 => ?_) (fun c4 => ?_)
      · rw [if_pos c4] at h
        refine lv_iconst (v := 0) hx hb d_Doors_letsThrough_50 (by decide) ?_
        exact W.zret hx hb hr rfl (fun t ht _ => ⟨_, rfl, Option.some.inj h, ht⟩) (fun _ hq => nomatch hq) d_Doors_letsThrough_51
      · rw [if_neg c4] at h
        refine lv_iconst (v := 1) hx hb d_Doors_letsThrough_46 (by decide) ?_
        refine lv_goto (tgt := 51) hx hb d_Doors_letsThrough_47 (by decide) ?_
        exact W.zret hx hb hr rfl (fun t ht _ => ⟨_, rfl, Option.some.inj h, ht⟩) (fun _ hq => nomatch hq) d_Doors_letsThrough_51
  · rw [if_neg c1] at h
    refine lv_iconst (v := 0) hx hb d_Doors_letsThrough_10 (by decide) ?_
    exact W.zret hx hb hr rfl (fun t ht _ => ⟨_, rfl, Option.some.inj h, ht⟩) (fun _ hq => nomatch hq) d_Doors_letsThrough_11
section RC
variable {p : Program} {l : Launch} {e : Env} {R : Room} {s : State} {m : MethodId} {args : Array Value} {below : List Frame} {meth : Method} {c : Code} {H : Heap} {locs : List Loc} {cells slots : Nat} {Q : State → Prop}
variable {cc : ByteArray} {pc : Nat} {ls : Array Slot} {rest : List Value} {G : va_G} {ad : Nat → Nat} {cI cZ : ClassId} {σ : Sg} {own : String}
theorem cl_PM_251 (C : CX "PlaceMoves" cc p s m args c G cI cZ) (hml : c.maxLocals = ls.size) (hP : va_P G clX (wX ad cI cZ σ) H) {x1 : Int32} {x2 : Int32} {x3 : Int32} {r : Int32} (hg : f_Doors_letsThrough σ x1 x2 x3 = some r) (hR : 1 + 1 ≤ R.frames ∧ 8 + (4 + 11) + 33 ≤ R.locals) (hrest : (rest.map fun v => v.category).sum ≤ 8) (hd : decode cc pc = .ok (.invokevirtual 251, 3)) (hcs : cells + 0 ≤ R.cells ∧ slots + 0 ≤ R.slots) (kk : W p l e R s m args below meth c H locs cells slots Q (F0 m (pc + 3) ls (.int r :: rest))) : W p l e R s m args below meth c H locs cells slots Q (F0 m pc ls (.int x3 :: .int x2 :: .int x1 :: .ref (ad 4) :: rest)) :=
  vp_callSi (W.runV (As := [.int x1, .int x2, .int x3]) (rest := rest) ⟨C.1, C.2.1, hml, C.2.2.1, C.2.2.2.1⟩ (c_Doors_letsThrough l G ad cI cZ σ x1 x2 x3 r hg) (cwV 3 C.2.2.2.1 (wg_V w_525 w_526 w_527 w_5 w_528) rfl rfl rfl (by decide +kernel) hR) ⟨PcX.blind, va_recv C.2.2.2.2.1 hP (ci := 4) (q0 := 4) rfl rfl, fun U hU hW => ⟨rfl, by rw [hU]; exact hP, C.2.2.2.2.warm hW⟩⟩ rfl rfl rfl rfl (lv_room hrest) hd hcs) (fun r' e => by subst e; exact kk)
end RC
