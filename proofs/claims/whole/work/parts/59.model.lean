abbrev wl_MD_holds : List Cond := .code ⟨"PlaceMovesModel", "holds", "(III)Z"⟩ prog_9_method_25_code 7 (some FieldType.boolean) :: WG
set_option maxHeartbeats 4000000 in
set_option maxRecDepth 100000 in
theorem c_MD_holds (l : Launch) (G : va_G) (ad : Nat → Nat) (cI cZ : ClassId) (σ : Sg) (a1 : Int32) (a2 : Int32) (a3 : Int32) (out : Int32) (h : f_MD_holds σ a1 a2 a3 = some out) : Met l ⟨"PlaceMovesModel", "holds", "(III)Z"⟩ wl_MD_holds ({ frames := 1, cells := 0, slots := 0, locals := 24 } : Room) (PcR G ad cI cZ σ [.ref (ad 0), .int a1, .int a2, .int a3]) (vp_Si (fun r => r = out)) 0 0 (fun _ => False) := by
  refine Met.ofW (cc := prog_9_method_25_code) (maxL := 7) (ret := (some FieldType.boolean)) (by decide) rfl ?_
  intro p e s m args below meth c s₁ B hml hv
  obtain ⟨rfl, hP, hK⟩ := hv
  have hx := B.exec
  have hb := B.bytes
  have hr := B.returns
  have hts0 := atoms_spec (ws := wl_MD_holds) B.pre
  have hts : ∀ w ∈ WG, w.before _ s = true := fun w hw => hts0 w (List.mem_cons_of_mem _ hw)
  have hown : s.vm.findClass "PlaceMovesModel" = some m.cls := findClass_of_methodNamed B.named
  have hlocks := B.notSynchronized
  have C : CX "PlaceMovesModel" prog_9_method_25_code p s m _ c G cI cZ := ⟨hx, hb, hown, hts, hK⟩
  have hl := lv_entry ([.ref (ad 0), .int a1, .int a2, .int a3]) (n := 7) (Nat.le_of_ble_eq_true rfl)
  rw [lg_entry_eq]
  generalize (lg_sl ([.ref (ad 0), .int a1, .int a2, .int a3]) ++ List.replicate (7 - (lg_sl ([.ref (ad 0), .int a1, .int a2, .int a3])).length) Slot.unset).toArray = ls at hl ⊢
  have hl : lv_has ls 7 [(0, .ref (ad 0)), (1, .int a1), (2, .int a2), (3, .int a3)] := hl
  unfold f_MD_holds at h
  refine lv_iload_n hx hb d_MD_holds_0 rfl (lv_at hl 2 rfl) ?_
  refine lv_istore (lv' := [(4, .int a2), (0, .ref (ad 0)), (1, .int a1), (2, .int a2), (3, .int a3)]) hx hb d_MD_holds_1 hl (by decide) rfl (fun ls hl => ?_)
  refine lv_iconst (v := 0) hx hb d_MD_holds_3 (by decide) ?_
  refine lv_istore (lv' := [(5, .int 0), (4, .int a2), (0, .ref (ad 0)), (1, .int a1), (2, .int a2), (3, .int a3)]) hx hb d_MD_holds_4 hl (by decide) rfl (fun ls hl => ?_)
  have k6 : ∀ (n6 : Nat) (x1 : Int32) (x3 : Int32) (x4 : Int32) (x5 : Int32) (h : L_MD_holds_6 σ n6 x1 x3 x4 x5 = some out) (ls : Array Slot) (hl : lv_has ls 7 [(0, .ref (ad 0)), (1, .int x1), (3, .int x3), (4, .int x4), (5, .int x5)]), W p l e (headSpec wl_MD_holds ({ frames := 1, cells := 0, slots := 0, locals := 24 } : Room)).room s m (([.ref (ad 0), .int a1, .int a2, .int a3] : List Value).toArray) below meth c s.heap [] 0 0 (MQ below (vp_Si (fun r => r = out)) (([.ref (ad 0), .int a1, .int a2, .int a3] : List Value).toArray) s 0 0 (fun _ => False)) (F0 m 6 ls []) := by
    intro n6
    induction n6 with
    | zero =>
      intro x1 x3 x4 x5 h
      exact absurd h (by intro z; cases z)
    | succ n6 ih6 =>
      intro x1 x3 x4 x5 h ls hl
      replace h : B_MD_holds_6 σ (L_MD_holds_6 σ n6) x1 x3 x4 x5 = some out := h
      unfold B_MD_holds_6 at h
      refine lv_iload hx hb d_MD_holds_6 (lv_at hl 4 rfl) ?_
      refine lv_bipush (v := 20) hx hb d_MD_holds_8 (by decide) ?_
      refine lv_icmp_gt (tgt := 62) hx hb d_MD_holds_10 (by decide) (fun c1 => ?_) (fun c1 => ?_)
      · rw [if_pos c1] at h
        refine lv_iload hx hb d_MD_holds_62 (lv_at hl 3 rfl) ?_
        refine lv_iload_n hx hb d_MD_holds_64 rfl (lv_at hl 1 rfl) ?_
        refine lv_icmp_ne (tgt := 72) hx hb d_MD_holds_65 (by decide) (fun c8 => ?_) (fun c8 => ?_)
        · rw [if_neg c8] at h
          refine lv_iconst (v := 0) hx hb d_MD_holds_72 (by decide) ?_
          exact W.zret hx hb hr rfl (fun t ht _ => ⟨_, rfl, Option.some.inj h, ht⟩) (fun _ hq => nomatch hq) d_MD_holds_73
        · rw [if_pos c8] at h
          refine lv_iconst (v := 1) hx hb d_MD_holds_68 (by decide) ?_
          refine lv_goto (tgt := 73) hx hb d_MD_holds_69 (by decide) ?_
          exact W.zret hx hb hr rfl (fun t ht _ => ⟨_, rfl, Option.some.inj h, ht⟩) (fun _ hq => nomatch hq) d_MD_holds_73
      · rw [if_neg c1] at h
        refine lv_iload hx hb d_MD_holds_13 (lv_at hl 3 rfl) ?_
        refine lv_iload_n hx hb d_MD_holds_15 rfl (lv_at hl 1 rfl) ?_
        refine lv_icmp_eq (tgt := 62) hx hb d_MD_holds_16 (by decide) (fun c2 => ?_) (fun c2 => ?_)
        · rw [if_pos c2] at h
          refine lv_iload hx hb d_MD_holds_62 (lv_at hl 3 rfl) ?_
          refine lv_iload_n hx hb d_MD_holds_64 rfl (lv_at hl 1 rfl) ?_
          refine lv_icmp_ne (tgt := 72) hx hb d_MD_holds_65 (by decide) (fun c7 => ?_) (fun c7 => ?_)
          · rw [if_neg c7] at h
            refine lv_iconst (v := 0) hx hb d_MD_holds_72 (by decide) ?_
            exact W.zret hx hb hr rfl (fun t ht _ => ⟨_, rfl, Option.some.inj h, ht⟩) (fun _ hq => nomatch hq) d_MD_holds_73
          · rw [if_pos c7] at h
            refine lv_iconst (v := 1) hx hb d_MD_holds_68 (by decide) ?_
            refine lv_goto (tgt := 73) hx hb d_MD_holds_69 (by decide) ?_
            exact W.zret hx hb hr rfl (fun t ht _ => ⟨_, rfl, Option.some.inj h, ht⟩) (fun _ hq => nomatch hq) d_MD_holds_73
        · rw [if_neg c2] at h
          refine lv_aload_n hx hb d_MD_holds_19 rfl (lv_at hl 0 rfl) ?_
          refine lv_iload hx hb d_MD_holds_20 (lv_at hl 3 rfl) ?_
          refine lv_iload_n hx hb d_MD_holds_22 rfl (lv_at hl 2 rfl) ?_
          obtain ⟨r3, g_r3, h⟩ := ob_some h
          refine cl_MD_119 (rest := []) C (hml.trans hl.1.symm) hP g_r3 ⟨Nat.le_of_ble_eq_true rfl, Nat.le_of_ble_eq_true rfl⟩ (Nat.le_of_ble_eq_true rfl) d_MD_holds_23 ⟨Nat.zero_le _, Nat.zero_le _⟩ ?_
          refine lv_istore (lv' := [(6, .int r3), (0, .ref (ad 0)), (1, .int x1), (3, .int x3), (4, .int x4), (5, .int x5)]) hx hb d_MD_holds_26 hl (by decide) rfl (fun ls hl => ?_)
          refine lv_iload hx hb d_MD_holds_28 (lv_at hl 0 rfl) ?_
          refine lv_iconst (v := (-1)) hx hb d_MD_holds_30 (by decide) ?_
          refine lv_icmp_eq (tgt := 45) hx hb d_MD_holds_31 (by decide) (fun c4 => ?_) (fun c4 => ?_)
          · rw [if_pos c4] at h
            refine lv_iconst (v := 0) hx hb d_MD_holds_45 (by decide) ?_
            exact W.zret hx hb hr rfl (fun t ht _ => ⟨_, rfl, Option.some.inj h, ht⟩) (fun _ hq => nomatch hq) d_MD_holds_46
          · rw [if_neg c4] at h
            refine lv_aload_n hx hb d_MD_holds_34 rfl (lv_at hl 1 rfl) ?_
            refine gf_MD_38 C hP d_MD_holds_35 ?_
            refine lv_iload hx hb d_MD_holds_38 (lv_at hl 0 rfl) ?_
            obtain ⟨hin, h⟩ := gd_some h
            refine alR_10 C hP hin d_MD_holds_40 ?_
            refine lv_iconst (v := 1) hx hb d_MD_holds_41 (by decide) ?_
            refine lv_icmp_eq (tgt := 47) hx hb d_MD_holds_42 (by decide) (fun c5 => ?_) (fun c5 => ?_)
            · rw [if_pos c5] at h
              refine lv_aload_n hx hb d_MD_holds_47 rfl (lv_at hl 1 rfl) ?_
              refine gf_MD_41 C hP d_MD_holds_48 ?_
              refine lv_iload hx hb d_MD_holds_51 (lv_at hl 0 rfl) ?_
              obtain ⟨hin, h⟩ := gd_some h
              refine alR_11 C hP hin d_MD_holds_53 ?_
              obtain ⟨y6, e_y6, h⟩ := lt1_some h
              refine W.eq (g2 := F0 m 54 ls (.int y6 :: [])) (by rw [e_y6]) ?_
              refine lv_istore (lv' := [(4, .int y6), (6, .int r3), (0, .ref (ad 0)), (1, .int x1), (3, .int x3), (5, .int x5)]) hx hb d_MD_holds_54 hl (by decide) rfl (fun ls hl => ?_)
              refine lv_iinc (v := x5 + 1) (lv' := [(5, .int (x5 + 1)), (4, .int y6), (6, .int r3), (0, .ref (ad 0)), (1, .int x1), (3, .int x3)]) hx hb d_MD_holds_56 hl (k := 5) rfl rfl (by decide) rfl (fun ls hl => ?_)
              refine lv_goto (tgt := 6) hx hb d_MD_holds_59 (by decide) ?_
              exact ih6 x1 x3 y6 (x5 + 1) h _ (lv_sub hl [3, 4, 5, 1, 0] rfl)
            · rw [if_neg c5] at h
              refine lv_iconst (v := 0) hx hb d_MD_holds_45 (by decide) ?_
              exact W.zret hx hb hr rfl (fun t ht _ => ⟨_, rfl, Option.some.inj h, ht⟩) (fun _ hq => nomatch hq) d_MD_holds_46
  exact k6 _ a1 a3 a2 0 h _ (lv_sub hl [2, 3, 5, 1, 0] rfl)
section RC
variable {p : Program} {l : Launch} {e : Env} {R : Room} {s : State} {m : MethodId} {args : Array Value} {below : List Frame} {meth : Method} {c : Code} {H : Heap} {locs : List Loc} {cells slots : Nat} {Q : State → Prop}
variable {cc : ByteArray} {pc : Nat} {ls : Array Slot} {rest : List Value} {G : va_G} {ad : Nat → Nat} {cI cZ : ClassId} {σ : Sg} {own : String}
theorem cl_MD_164 (C : CX "PlaceMovesModel" cc p s m args c G cI cZ) (hml : c.maxLocals = ls.size) (hP : va_P G clX (wR ad cI cZ σ) H) {x1 : Int32} {x2 : Int32} {x3 : Int32} {r : Int32} (hg : f_MD_holds σ x1 x2 x3 = some r) (hR : 1 + 1 ≤ R.frames ∧ 8 + (7 + 11) + 24 ≤ R.locals) (hrest : (rest.map fun v => v.category).sum ≤ 8) (hd : decode cc pc = .ok (.invokevirtual 164, 3)) (hcs : cells + 0 ≤ R.cells ∧ slots + 0 ≤ R.slots) (kk : W p l e R s m args below meth c H locs cells slots Q (F0 m (pc + 3) ls (.int r :: rest))) : W p l e R s m args below meth c H locs cells slots Q (F0 m pc ls (.int x3 :: .int x2 :: .int x1 :: .ref (ad 0) :: rest)) :=
  vp_callSi (W.runV (As := [.int x1, .int x2, .int x3]) (rest := rest) ⟨C.1, C.2.1, hml, C.2.2.1, C.2.2.2.1⟩ (c_MD_holds l G ad cI cZ σ x1 x2 x3 r hg) (cwV 3 C.2.2.2.1 (wg_V w_792 w_794 ws_30 w_8 w_795) rfl rfl rfl (by decide +kernel) hR) ⟨PcR.blind, va_recv C.2.2.2.2.1 hP (ci := 7) (q0 := 0) rfl rfl, fun U hU hW => ⟨rfl, by rw [hU]; exact hP, C.2.2.2.2.warm hW⟩⟩ rfl rfl rfl rfl (lv_room hrest) hd hcs) (fun r' e => by subst e; exact kk)
end RC
abbrev wl_MD_size : List Cond := .code ⟨"PlaceMovesModel", "size", "(II)I"⟩ prog_9_method_26_code 8 (some FieldType.int) :: WG
set_option maxHeartbeats 4000000 in
set_option maxRecDepth 100000 in
theorem c_MD_size (l : Launch) (G : va_G) (ad : Nat → Nat) (cI cZ : ClassId) (σ : Sg) (a1 : Int32) (a2 : Int32) (out : Int32) (h : f_MD_size σ a1 a2 = some out) : Met l ⟨"PlaceMovesModel", "size", "(II)I"⟩ wl_MD_size ({ frames := 0, cells := 0, slots := 0, locals := 0 } : Room) (PcR G ad cI cZ σ [.ref (ad 0), .int a1, .int a2]) (vp_Si (fun r => r = out)) 0 0 (fun _ => False) := by
  refine Met.ofW (cc := prog_9_method_26_code) (maxL := 8) (ret := (some FieldType.int)) (by decide) rfl ?_
  intro p e s m args below meth c s₁ B hml hv
  obtain ⟨rfl, hP, hK⟩ := hv
  have hx := B.exec
  have hb := B.bytes
  have hr := B.returns
  have hts0 := atoms_spec (ws := wl_MD_size) B.pre
  have hts : ∀ w ∈ WG, w.before _ s = true := fun w hw => hts0 w (List.mem_cons_of_mem _ hw)
  have hown : s.vm.findClass "PlaceMovesModel" = some m.cls := findClass_of_methodNamed B.named
  have hlocks := B.notSynchronized
  have C : CX "PlaceMovesModel" prog_9_method_26_code p s m _ c G cI cZ := ⟨hx, hb, hown, hts, hK⟩
  have hl := lv_entry ([.ref (ad 0), .int a1, .int a2]) (n := 8) (Nat.le_of_ble_eq_true rfl)
  rw [lg_entry_eq]
  generalize (lg_sl ([.ref (ad 0), .int a1, .int a2]) ++ List.replicate (8 - (lg_sl ([.ref (ad 0), .int a1, .int a2])).length) Slot.unset).toArray = ls at hl ⊢
  have hl : lv_has ls 8 [(0, .ref (ad 0)), (1, .int a1), (2, .int a2)] := hl
  unfold f_MD_size at h
  refine lv_aload_n hx hb d_MD_size_0 rfl (lv_at hl 0 rfl) ?_
  refine gf_MD_16 C hP d_MD_size_1 ?_
  refine lv_iconst (v := 3) hx hb d_MD_size_4 (by decide) ?_
  refine lv_iload_n hx hb d_MD_size_5 rfl (lv_at hl 1 rfl) ?_
  refine lv_imul hx hb d_MD_size_6 ?_
  obtain ⟨hin, h⟩ := gd_some h
  refine alR_3 C hP hin d_MD_size_7 ?_
  obtain ⟨y1, e_y1, h⟩ := lt1_some h
  refine W.eq (g2 := F0 m 8 ls (.int y1 :: [])) (by rw [e_y1]) ?_
  refine lv_istore_n (lv' := [(3, .int y1), (0, .ref (ad 0)), (1, .int a1), (2, .int a2)]) hx hb d_MD_size_8 rfl hl (by decide) rfl (fun ls hl => ?_)
  refine lv_aload_n hx hb d_MD_size_9 rfl (lv_at hl 1 rfl) ?_
  refine gf_MD_16 C hP d_MD_size_10 ?_
  refine lv_iconst (v := 3) hx hb d_MD_size_13 (by decide) ?_
  refine lv_iload_n hx hb d_MD_size_14 rfl (lv_at hl 2 rfl) ?_
  refine lv_imul hx hb d_MD_size_15 ?_
  refine lv_iconst (v := 1) hx hb d_MD_size_16 (by decide) ?_
  refine lv_iadd hx hb d_MD_size_17 ?_
  obtain ⟨hin, h⟩ := gd_some h
  refine alR_3 C hP hin d_MD_size_18 ?_
  obtain ⟨y2, e_y2, h⟩ := lt1_some h
  refine W.eq (g2 := F0 m 19 ls (.int y2 :: [])) (by rw [e_y2]) ?_
  refine lv_istore (lv' := [(4, .int y2), (3, .int y1), (0, .ref (ad 0)), (1, .int a1), (2, .int a2)]) hx hb d_MD_size_19 hl (by decide) rfl (fun ls hl => ?_)
  refine lv_aload_n hx hb d_MD_size_21 rfl (lv_at hl 2 rfl) ?_
  refine gf_MD_16 C hP d_MD_size_22 ?_
  refine lv_iconst (v := 3) hx hb d_MD_size_25 (by decide) ?_
  refine lv_iload_n hx hb d_MD_size_26 rfl (lv_at hl 3 rfl) ?_
  refine lv_imul hx hb d_MD_size_27 ?_
  refine lv_iconst (v := 2) hx hb d_MD_size_28 (by decide) ?_
  refine lv_iadd hx hb d_MD_size_29 ?_
  obtain ⟨hin, h⟩ := gd_some h
  refine alR_3 C hP hin d_MD_size_30 ?_
  obtain ⟨y3, e_y3, h⟩ := lt1_some h
  refine W.eq (g2 := F0 m 31 ls (.int y3 :: [])) (by rw [e_y3]) ?_
  refine lv_istore (lv' := [(5, .int y3), (4, .int y2), (3, .int y1), (0, .ref (ad 0)), (1, .int a1), (2, .int a2)]) hx hb d_MD_size_31 hl (by decide) rfl (fun ls hl => ?_)
  refine lv_iload_n hx hb d_MD_size_33 rfl (lv_at hl 2 rfl) ?_
  refine lv_iload hx hb d_MD_size_34 (lv_at hl 1 rfl) ?_
  refine lv_icmp_ge (tgt := 43) hx hb d_MD_size_36 (by decide) (fun c4 => ?_) (fun c4 => ?_)
  · rw [if_pos c4] at h
    refine lv_iload hx hb d_MD_size_43 (lv_at hl 1 rfl) ?_
    refine lv_istore (lv' := [(6, .int y2), (5, .int y3), (4, .int y2), (3, .int y1), (0, .ref (ad 0)), (1, .int a1), (2, .int a2)]) hx hb d_MD_size_45 hl (by decide) rfl (fun ls hl => ?_)
    refine lv_iload hx hb d_MD_size_47 (lv_at hl 0 rfl) ?_
    refine lv_iload hx hb d_MD_size_49 (lv_at hl 1 rfl) ?_
    refine lv_icmp_ge (tgt := 59) hx hb d_MD_size_51 (by decide) (fun c28 => ?_) (fun c28 => ?_)
    · rw [if_pos c28] at h
      refine lv_iload hx hb d_MD_size_59 (lv_at hl 1 rfl) ?_
      have k61 : ∀ (x2 : Int32) (x3 : Int32) (x4 : Int32) (x5 : Int32) (s0 : Int32) (h : C_MD_size_61 σ x2 x3 x4 x5 s0 = some out) (ls : Array Slot) (hl : lv_has ls 8 [(2, .int x2), (3, .int x3), (4, .int x4), (5, .int x5)]), W p l e (headSpec wl_MD_size ({ frames := 0, cells := 0, slots := 0, locals := 0 } : Room)).room s m (([.ref (ad 0), .int a1, .int a2] : List Value).toArray) below meth c s.heap [] 0 0 (MQ below (vp_Si (fun r => r = out)) (([.ref (ad 0), .int a1, .int a2] : List Value).toArray) s 0 0 (fun _ => False)) (F0 m 61 ls [.int s0]) := by
        intro x2 x3 x4 x5 s0 h ls hl
        unfold C_MD_size_61 at h
        refine lv_istore (lv' := [(6, .int s0), (2, .int x2), (3, .int x3), (4, .int x4), (5, .int x5)]) hx hb d_MD_size_61 hl (by decide) rfl (fun ls hl => ?_)
        refine lv_iload_n hx hb d_MD_size_63 rfl (lv_at hl 2 rfl) ?_
        refine lv_iload hx hb d_MD_size_64 (lv_at hl 3 rfl) ?_
        refine lv_icmp_le (tgt := 73) hx hb d_MD_size_66 (by decide) (fun c40 => ?_) (fun c40 => ?_)
        · rw [if_pos c40] at h
          refine lv_iload hx hb d_MD_size_73 (lv_at hl 3 rfl) ?_
          refine lv_istore (lv' := [(7, .int x4), (6, .int s0), (2, .int x2), (3, .int x3), (4, .int x4), (5, .int x5)]) hx hb d_MD_size_75 hl (by decide) rfl (fun ls hl => ?_)
          refine lv_iload hx hb d_MD_size_77 (lv_at hl 0 rfl) ?_
          refine lv_iload hx hb d_MD_size_79 (lv_at hl 5 rfl) ?_
          refine lv_icmp_le (tgt := 89) hx hb d_MD_size_81 (by decide) (fun c46 => ?_) (fun c46 => ?_)
          · rw [if_pos c46] at h
            refine lv_iload hx hb d_MD_size_89 (lv_at hl 5 rfl) ?_
            have k91 : ∀ (x2 : Int32) (x3 : Int32) (x4 : Int32) (x5 : Int32) (x6 : Int32) (s0 : Int32) (h : C_MD_size_91 σ x2 x3 x4 x5 x6 s0 = some out) (ls : Array Slot) (hl : lv_has ls 8 [(2, .int x2), (3, .int x3), (4, .int x4), (5, .int x5), (6, .int x6)]), W p l e (headSpec wl_MD_size ({ frames := 0, cells := 0, slots := 0, locals := 0 } : Room)).room s m (([.ref (ad 0), .int a1, .int a2] : List Value).toArray) below meth c s.heap [] 0 0 (MQ below (vp_Si (fun r => r = out)) (([.ref (ad 0), .int a1, .int a2] : List Value).toArray) s 0 0 (fun _ => False)) (F0 m 91 ls [.int s0]) := by
              intro x2 x3 x4 x5 x6 s0 h ls hl
              unfold C_MD_size_91 at h
              refine lv_istore (lv' := [(7, .int s0), (2, .int x2), (3, .int x3), (4, .int x4), (5, .int x5), (6, .int x6)]) hx hb d_MD_size_91 hl (by decide) rfl (fun ls hl => ?_)
              refine lv_iload_n hx hb d_MD_size_93 rfl (lv_at hl 1 rfl) ?_
              refine lv_if_ne (tgt := 102) hx hb d_MD_size_94 (by decide) (fun c49 => ?_) (fun c49 => ?_)
              · rw [if_neg c49] at h
                refine lv_iload_n hx hb d_MD_size_102 rfl (lv_at hl 1 rfl) ?_
                refine lv_iconst (v := 2) hx hb d_MD_size_103 (by decide) ?_
                refine lv_icmp_ne (tgt := 112) hx hb d_MD_size_104 (by decide) (fun c50 => ?_) (fun c50 => ?_)
                · rw [if_neg c50] at h
                  refine lv_iload_n hx hb d_MD_size_112 rfl (lv_at hl 2 rfl) ?_
                  refine lv_iload hx hb d_MD_size_113 (lv_at hl 3 rfl) ?_
                  refine lv_iadd hx hb d_MD_size_115 ?_
                  refine lv_iload hx hb d_MD_size_116 (lv_at hl 4 rfl) ?_
                  refine lv_iadd hx hb d_MD_size_118 ?_
                  refine lv_iload hx hb d_MD_size_119 (lv_at hl 5 rfl) ?_
                  refine lv_isub hx hb d_MD_size_121 ?_
                  refine lv_iload hx hb d_MD_size_122 (lv_at hl 0 rfl) ?_
                  refine lv_isub hx hb d_MD_size_124 ?_
                  exact W.iret hx hb hr (fun t ht _ => ⟨_, rfl, Option.some.inj h, ht⟩) (fun _ hq => nomatch hq) d_MD_size_125
                · rw [if_pos c50] at h
                  refine lv_iload hx hb d_MD_size_107 (lv_at hl 0 rfl) ?_
                  refine lv_goto (tgt := 125) hx hb d_MD_size_109 (by decide) ?_
                  exact W.iret hx hb hr (fun t ht _ => ⟨_, rfl, Option.some.inj h, ht⟩) (fun _ hq => nomatch hq) d_MD_size_125
              · rw [if_pos c49] at h
                refine lv_iload hx hb d_MD_size_97 (lv_at hl 5 rfl) ?_
                refine lv_goto (tgt := 125) hx hb d_MD_size_99 (by decide) ?_
                exact W.iret hx hb hr (fun t ht _ => ⟨_, rfl, Option.some.inj h, ht⟩) (fun _ hq => nomatch hq) d_MD_size_125
            exact k91 x2 x3 x4 x5 s0 x5 h _ (lv_sub hl [2, 3, 4, 5, 1] rfl)
          · rw [if_neg c46] at h
            refine lv_iload hx hb d_MD_size_84 (lv_at hl 0 rfl) ?_
            refine lv_goto (tgt := 91) hx hb d_MD_size_86 (by decide) ?_
            have k91 : ∀ (x2 : Int32) (x3 : Int32) (x4 : Int32) (x5 : Int32) (x6 : Int32) (s0 : Int32) (h : C_MD_size_91 σ x2 x3 x4 x5 x6 s0 = some out) (ls : Array Slot) (hl : lv_has ls 8 [(2, .int x2), (3, .int x3), (4, .int x4), (5, .int x5), (6, .int x6)]), W p l e (headSpec wl_MD_size ({ frames := 0, cells := 0, slots := 0, locals := 0 } : Room)).room s m (([.ref (ad 0), .int a1, .int a2] : List Value).toArray) below meth c s.heap [] 0 0 (MQ below (vp_Si (fun r => r = out)) (([.ref (ad 0), .int a1, .int a2] : List Value).toArray) s 0 0 (fun _ => False)) (F0 m 91 ls [.int s0]) := by
              intro x2 x3 x4 x5 x6 s0 h ls hl
              unfold C_MD_size_91 at h
              refine lv_istore (lv' := [(7, .int s0), (2, .int x2), (3, .int x3), (4, .int x4), (5, .int x5), (6, .int x6)]) hx hb d_MD_size_91 hl (by decide) rfl (fun ls hl => ?_)
              refine lv_iload_n hx hb d_MD_size_93 rfl (lv_at hl 1 rfl) ?_
              refine lv_if_ne (tgt := 102) hx hb d_MD_size_94 (by decide) (fun c47 => ?_) (fun c47 => ?_)
              · rw [if_neg c47] at h
                refine lv_iload_n hx hb d_MD_size_102 rfl (lv_at hl 1 rfl) ?_
                refine lv_iconst (v := 2) hx hb d_MD_size_103 (by decide) ?_
                refine lv_icmp_ne (tgt := 112) hx hb d_MD_size_104 (by decide) (fun c48 => ?_) (fun c48 => ?_)
                · rw [if_neg c48] at h
                  refine lv_iload_n hx hb d_MD_size_112 rfl (lv_at hl 2 rfl) ?_
                  refine lv_iload hx hb d_MD_size_113 (lv_at hl 3 rfl) ?_
                  refine lv_iadd hx hb d_MD_size_115 ?_
                  refine lv_iload hx hb d_MD_size_116 (lv_at hl 4 rfl) ?_
                  refine lv_iadd hx hb d_MD_size_118 ?_
                  refine lv_iload hx hb d_MD_size_119 (lv_at hl 5 rfl) ?_
                  refine lv_isub hx hb d_MD_size_121 ?_
                  refine lv_iload hx hb d_MD_size_122 (lv_at hl 0 rfl) ?_
                  refine lv_isub hx hb d_MD_size_124 ?_
                  exact W.iret hx hb hr (fun t ht _ => ⟨_, rfl, Option.some.inj h, ht⟩) (fun _ hq => nomatch hq) d_MD_size_125
                · rw [if_pos c48] at h
                  refine lv_iload hx hb d_MD_size_107 (lv_at hl 0 rfl) ?_
                  refine lv_goto (tgt := 125) hx hb d_MD_size_109 (by decide) ?_
                  exact W.iret hx hb hr (fun t ht _ => ⟨_, rfl, Option.some.inj h, ht⟩) (fun _ hq => nomatch hq) d_MD_size_125
              · rw [if_pos c47] at h
                refine lv_iload hx hb d_MD_size_97 (lv_at hl 5 rfl) ?_
                refine lv_goto (tgt := 125) hx hb d_MD_size_99 (by decide) ?_
                exact W.iret hx hb hr (fun t ht _ => ⟨_, rfl, Option.some.inj h, ht⟩) (fun _ hq => nomatch hq) d_MD_size_125
            exact k91 x2 x3 x4 x5 s0 x4 h _ (lv_sub hl [2, 3, 4, 5, 1] rfl)
        · rw [if_neg c40] at h
          refine lv_iload_n hx hb d_MD_size_69 rfl (lv_at hl 2 rfl) ?_
          refine lv_goto (tgt := 75) hx hb d_MD_size_70 (by decide) ?_
          refine lv_istore (lv' := [(7, .int x3), (6, .int s0), (2, .int x2), (3, .int x3), (4, .int x4), (5, .int x5)]) hx hb d_MD_size_75 hl (by decide) rfl (fun ls hl => ?_)
          refine lv_iload hx hb d_MD_size_77 (lv_at hl 0 rfl) ?_
          refine lv_iload hx hb d_MD_size_79 (lv_at hl 5 rfl) ?_
          refine lv_icmp_le (tgt := 89) hx hb d_MD_size_81 (by decide) (fun c41 => ?_) (fun c41 => ?_)
          · rw [if_pos c41] at h
            refine lv_iload hx hb d_MD_size_89 (lv_at hl 5 rfl) ?_
            have k91 : ∀ (x2 : Int32) (x3 : Int32) (x4 : Int32) (x5 : Int32) (x6 : Int32) (s0 : Int32) (h : C_MD_size_91 σ x2 x3 x4 x5 x6 s0 = some out) (ls : Array Slot) (hl : lv_has ls 8 [(2, .int x2), (3, .int x3), (4, .int x4), (5, .int x5), (6, .int x6)]), W p l e (headSpec wl_MD_size ({ frames := 0, cells := 0, slots := 0, locals := 0 } : Room)).room s m (([.ref (ad 0), .int a1, .int a2] : List Value).toArray) below meth c s.heap [] 0 0 (MQ below (vp_Si (fun r => r = out)) (([.ref (ad 0), .int a1, .int a2] : List Value).toArray) s 0 0 (fun _ => False)) (F0 m 91 ls [.int s0]) := by
              intro x2 x3 x4 x5 x6 s0 h ls hl
              unfold C_MD_size_91 at h
              refine lv_istore (lv' := [(7, .int s0), (2, .int x2), (3, .int x3), (4, .int x4), (5, .int x5), (6, .int x6)]) hx hb d_MD_size_91 hl (by decide) rfl (fun ls hl => ?_)
              refine lv_iload_n hx hb d_MD_size_93 rfl (lv_at hl 1 rfl) ?_
              refine lv_if_ne (tgt := 102) hx hb d_MD_size_94 (by decide) (fun c44 => ?_) (fun c44 => ?_)
              · rw [if_neg c44] at h
                refine lv_iload_n hx hb d_MD_size_102 rfl (lv_at hl 1 rfl) ?_
                refine lv_iconst (v := 2) hx hb d_MD_size_103 (by decide) ?_
                refine lv_icmp_ne (tgt := 112) hx hb d_MD_size_104 (by decide) (fun c45 => ?_) (fun c45 => ?_)
                · rw [if_neg c45] at h
                  refine lv_iload_n hx hb d_MD_size_112 rfl (lv_at hl 2 rfl) ?_
                  refine lv_iload hx hb d_MD_size_113 (lv_at hl 3 rfl) ?_
                  refine lv_iadd hx hb d_MD_size_115 ?_
                  refine lv_iload hx hb d_MD_size_116 (lv_at hl 4 rfl) ?_
                  refine lv_iadd hx hb d_MD_size_118 ?_
                  refine lv_iload hx hb d_MD_size_119 (lv_at hl 5 rfl) ?_
                  refine lv_isub hx hb d_MD_size_121 ?_
                  refine lv_iload hx hb d_MD_size_122 (lv_at hl 0 rfl) ?_
                  refine lv_isub hx hb d_MD_size_124 ?_
                  exact W.iret hx hb hr (fun t ht _ => ⟨_, rfl, Option.some.inj h, ht⟩) (fun _ hq => nomatch hq) d_MD_size_125
                · rw [if_pos c45] at h
                  refine lv_iload hx hb d_MD_size_107 (lv_at hl 0 rfl) ?_
                  refine lv_goto (tgt := 125) hx hb d_MD_size_109 (by decide) ?_
                  exact W.iret hx hb hr (fun t ht _ => ⟨_, rfl, Option.some.inj h, ht⟩) (fun _ hq => nomatch hq) d_MD_size_125
              · rw [if_pos c44] at h
                refine lv_iload hx hb d_MD_size_97 (lv_at hl 5 rfl) ?_
                refine lv_goto (tgt := 125) hx hb d_MD_size_99 (by decide) ?_
                exact W.iret hx hb hr (fun t ht _ => ⟨_, rfl, Option.some.inj h, ht⟩) (fun _ hq => nomatch hq) d_MD_size_125
            exact k91 x2 x3 x4 x5 s0 x5 h _ (lv_sub hl [2, 3, 4, 5, 1] rfl)
          · rw [if_neg c41] at h
            refine lv_iload hx hb d_MD_size_84 (lv_at hl 0 rfl) ?_
            refine lv_goto (tgt := 91) hx hb d_MD_size_86 (by decide) ?_
            have k91 : ∀ (x2 : Int32) (x3 : Int32) (x4 : Int32) (x5 : Int32) (x6 : Int32) (s0 : Int32) (h : C_MD_size_91 σ x2 x3 x4 x5 x6 s0 = some out) (ls : Array Slot) (hl : lv_has ls 8 [(2, .int x2), (3, .int x3), (4, .int x4), (5, .int x5), (6, .int x6)]), W p l e (headSpec wl_MD_size ({ frames := 0, cells := 0, slots := 0, locals := 0 } : Room)).room s m (([.ref (ad 0), .int a1, .int a2] : List Value).toArray) below meth c s.heap [] 0 0 (MQ below (vp_Si (fun r => r = out)) (([.ref (ad 0), .int a1, .int a2] : List Value).toArray) s 0 0 (fun _ => False)) (F0 m 91 ls [.int s0]) := by
              intro x2 x3 x4 x5 x6 s0 h ls hl
              unfold C_MD_size_91 at h
              refine lv_istore (lv' := [(7, .int s0), (2, .int x2), (3, .int x3), (4, .int x4), (5, .int x5), (6, .int x6)]) hx hb d_MD_size_91 hl (by decide) rfl (fun ls hl => ?_)
              refine lv_iload_n hx hb d_MD_size_93 rfl (lv_at hl 1 rfl) ?_
              refine lv_if_ne (tgt := 102) hx hb d_MD_size_94 (by decide) (fun c42 => ?_) (fun c42 => ?_)
              · rw [if_neg c42] at h
                refine lv_iload_n hx hb d_MD_size_102 rfl (lv_at hl 1 rfl) ?_
                refine lv_iconst (v := 2) hx hb d_MD_size_103 (by decide) ?_
                refine lv_icmp_ne (tgt := 112) hx hb d_MD_size_104 (by decide) (fun c43 => ?_) (fun c43 => ?_)
                · rw [if_neg c43] at h
                  refine lv_iload_n hx hb d_MD_size_112 rfl (lv_at hl 2 rfl) ?_
                  refine lv_iload hx hb d_MD_size_113 (lv_at hl 3 rfl) ?_
                  refine lv_iadd hx hb d_MD_size_115 ?_
                  refine lv_iload hx hb d_MD_size_116 (lv_at hl 4 rfl) ?_
                  refine lv_iadd hx hb d_MD_size_118 ?_
                  refine lv_iload hx hb d_MD_size_119 (lv_at hl 5 rfl) ?_
                  refine lv_isub hx hb d_MD_size_121 ?_
                  refine lv_iload hx hb d_MD_size_122 (lv_at hl 0 rfl) ?_
                  refine lv_isub hx hb d_MD_size_124 ?_
                  exact W.iret hx hb hr (fun t ht _ => ⟨_, rfl, Option.some.inj h, ht⟩) (fun _ hq => nomatch hq) d_MD_size_125
                · rw [if_pos c43] at h
                  refine lv_iload hx hb d_MD_size_107 (lv_at hl 0 rfl) ?_
                  refine lv_goto (tgt := 125) hx hb d_MD_size_109 (by decide) ?_
                  exact W.iret hx hb hr (fun t ht _ => ⟨_, rfl, Option.some.inj h, ht⟩) (fun _ hq => nomatch hq) d_MD_size_125
              · rw [if_pos c42] at h
                refine lv_iload hx hb d_MD_size_97 (lv_at hl 5 rfl) ?_
                refine lv_goto (tgt := 125) hx hb d_MD_size_99 (by decide) ?_
                exact W.iret hx hb hr (fun t ht _ => ⟨_, rfl, Option.some.inj h, ht⟩) (fun _ hq => nomatch hq) d_MD_size_125
            exact k91 x2 x3 x4 x5 s0 x3 h _ (lv_sub hl [2, 3, 4, 5, 1] rfl)
      exact k61 a2 y1 y2 y3 y3 h _ (lv_sub hl [6, 3, 2, 1] rfl)
    · rw [if_neg c28] at h
      refine lv_iload hx hb d_MD_size_54 (lv_at hl 0 rfl) ?_
      refine lv_goto (tgt := 61) hx hb d_MD_size_56 (by decide) ?_
      have k61 : ∀ (x2 : Int32) (x3 : Int32) (x4 : Int32) (x5 : Int32) (s0 : Int32) (h : C_MD_size_61 σ x2 x3 x4 x5 s0 = some out) (ls : Array Slot) (hl : lv_has ls 8 [(2, .int x2), (3, .int x3), (4, .int x4), (5, .int x5)]), W p l e (headSpec wl_MD_size ({ frames := 0, cells := 0, slots := 0, locals := 0 } : Room)).room s m (([.ref (ad 0), .int a1, .int a2] : List Value).toArray) below meth c s.heap [] 0 0 (MQ below (vp_Si (fun r => r = out)) (([.ref (ad 0), .int a1, .int a2] : List Value).toArray) s 0 0 (fun _ => False)) (F0 m 61 ls [.int s0]) := by
        intro x2 x3 x4 x5 s0 h ls hl
        unfold C_MD_size_61 at h
        refine lv_istore (lv' := [(6, .int s0), (2, .int x2), (3, .int x3), (4, .int x4), (5, .int x5)]) hx hb d_MD_size_61 hl (by decide) rfl (fun ls hl => ?_)
        refine lv_iload_n hx hb d_MD_size_63 rfl (lv_at hl 2 rfl) ?_
        refine lv_iload hx hb d_MD_size_64 (lv_at hl 3 rfl) ?_
        refine lv_icmp_le (tgt := 73) hx hb d_MD_size_66 (by decide) (fun c29 => ?_) (fun c29 => ?_)
        · rw [if_pos c29] at h
          refine lv_iload hx hb d_MD_size_73 (lv_at hl 3 rfl) ?_
          refine lv_istore (lv' := [(7, .int x4), (6, .int s0), (2, .int x2), (3, .int x3), (4, .int x4), (5, .int x5)]) hx hb d_MD_size_75 hl (by decide) rfl (fun ls hl => ?_)
          refine lv_iload hx hb d_MD_size_77 (lv_at hl 0 rfl) ?_
          refine lv_iload hx hb d_MD_size_79 (lv_at hl 5 rfl) ?_
          refine lv_icmp_le (tgt := 89) hx hb d_MD_size_81 (by decide) (fun c35 => ?_) (fun c35 => ?_)
          · rw [if_pos c35] at h
            refine lv_iload hx hb d_MD_size_89 (lv_at hl 5 rfl) ?_
            have k91 : ∀ (x2 : Int32) (x3 : Int32) (x4 : Int32) (x5 : Int32) (x6 : Int32) (s0 : Int32) (h : C_MD_size_91 σ x2 x3 x4 x5 x6 s0 = some out) (ls : Array Slot) (hl : lv_has ls 8 [(2, .int x2), (3, .int x3), (4, .int x4), (5, .int x5), (6, .int x6)]), W p l e (headSpec wl_MD_size ({ frames := 0, cells := 0, slots := 0, locals := 0 } : Room)).room s m (([.ref (ad 0), .int a1, .int a2] : List Value).toArray) below meth c s.heap [] 0 0 (MQ below (vp_Si (fun r => r = out)) (([.ref (ad 0), .int a1, .int a2] : List Value).toArray) s 0 0 (fun _ => False)) (F0 m 91 ls [.int s0]) := by
              intro x2 x3 x4 x5 x6 s0 h ls hl
              unfold C_MD_size_91 at h
              refine lv_istore (lv' := [(7, .int s0), (2, .int x2), (3, .int x3), (4, .int x4), (5, .int x5), (6, .int x6)]) hx hb d_MD_size_91 hl (by decide) rfl (fun ls hl => ?_)
              refine lv_iload_n hx hb d_MD_size_93 rfl (lv_at hl 1 rfl) ?_
              refine lv_if_ne (tgt := 102) hx hb d_MD_size_94 (by decide) (fun c38 => ?_) (fun c38 => ?_)
              · rw [if_neg c38] at h
                refine lv_iload_n hx hb d_MD_size_102 rfl (lv_at hl 1 rfl) ?_
                refine lv_iconst (v := 2) hx hb d_MD_size_103 (by decide) ?_
                refine lv_icmp_ne (tgt := 112) hx hb d_MD_size_104 (by decide) (fun c39 => ?_) (fun c39 => ?_)
                · rw [if_neg c39] at h
                  refine lv_iload_n hx hb d_MD_size_112 rfl (lv_at hl 2 rfl) ?_
                  refine lv_iload hx hb d_MD_size_113 (lv_at hl 3 rfl) ?_
                  refine lv_iadd hx hb d_MD_size_115 ?_
                  refine lv_iload hx hb d_MD_size_116 (lv_at hl 4 rfl) ?_
                  refine lv_iadd hx hb d_MD_size_118 ?_
                  refine lv_iload hx hb d_MD_size_119 (lv_at hl 5 rfl) ?_
                  refine lv_isub hx hb d_MD_size_121 ?_
                  refine lv_iload hx hb d_MD_size_122 (lv_at hl 0 rfl) ?_
                  refine lv_isub hx hb d_MD_size_124 ?_
                  exact W.iret hx hb hr (fun t ht _ => ⟨_, rfl, Option.some.inj h, ht⟩) (fun _ hq => nomatch hq) d_MD_size_125
                · rw [if_pos c39] at h
                  refine lv_iload hx hb d_MD_size_107 (lv_at hl 0 rfl) ?_
                  refine lv_goto (tgt := 125) hx hb d_MD_size_109 (by decide) ?_
                  exact W.iret hx hb hr (fun t ht _ => ⟨_, rfl, Option.some.inj h, ht⟩) (fun _ hq => nomatch hq) d_MD_size_125
              · rw [if_pos c38] at h
                refine lv_iload hx hb d_MD_size_97 (lv_at hl 5 rfl) ?_
                refine lv_goto (tgt := 125) hx hb d_MD_size_99 (by decide) ?_
                exact W.iret hx hb hr (fun t ht _ => ⟨_, rfl, Option.some.inj h, ht⟩) (fun _ hq => nomatch hq) d_MD_size_125
            exact k91 x2 x3 x4 x5 s0 x5 h _ (lv_sub hl [2, 3, 4, 5, 1] rfl)
          · rw [if_neg c35] at h
            refine lv_iload hx hb d_MD_size_84 (lv_at hl 0 rfl) ?_
            refine lv_goto (tgt := 91) hx hb d_MD_size_86 (by decide) ?_
            have k91 : ∀ (x2 : Int32) (x3 : Int32) (x4 : Int32) (x5 : Int32) (x6 : Int32) (s0 : Int32) (h : C_MD_size_91 σ x2 x3 x4 x5 x6 s0 = some out) (ls : Array Slot) (hl : lv_has ls 8 [(2, .int x2), (3, .int x3), (4, .int x4), (5, .int x5), (6, .int x6)]), W p l e (headSpec wl_MD_size ({ frames := 0, cells := 0, slots := 0, locals := 0 } : Room)).room s m (([.ref (ad 0), .int a1, .int a2] : List Value).toArray) below meth c s.heap [] 0 0 (MQ below (vp_Si (fun r => r = out)) (([.ref (ad 0), .int a1, .int a2] : List Value).toArray) s 0 0 (fun _ => False)) (F0 m 91 ls [.int s0]) := by
              intro x2 x3 x4 x5 x6 s0 h ls hl
              unfold C_MD_size_91 at h
              refine lv_istore (lv' := [(7, .int s0), (2, .int x2), (3, .int x3), (4, .int x4), (5, .int x5), (6, .int x6)]) hx hb d_MD_size_91 hl (by decide) rfl (fun ls hl => ?_)
              refine lv_iload_n hx hb d_MD_size_93 rfl (lv_at hl 1 rfl) ?_
              refine lv_if_ne (tgt := 102) hx hb d_MD_size_94 (by decide) (fun c36 => ?_) (fun c36 => ?_)
              · rw [if_neg c36] at h
                refine lv_iload_n hx hb d_MD_size_102 rfl (lv_at hl 1 rfl) ?_
                refine lv_iconst (v := 2) hx hb d_MD_size_103 (by decide) ?_
                refine lv_icmp_ne (tgt := 112) hx hb d_MD_size_104 (by decide) (fun c37 => ?_) (fun c37 => ?_)
                · rw [if_neg c37] at h
                  refine lv_iload_n hx hb d_MD_size_112 rfl (lv_at hl 2 rfl) ?_
                  refine lv_iload hx hb d_MD_size_113 (lv_at hl 3 rfl) ?_
                  refine lv_iadd hx hb d_MD_size_115 ?_
                  refine lv_iload hx hb d_MD_size_116 (lv_at hl 4 rfl) ?_
                  refine lv_iadd hx hb d_MD_size_118 ?_
                  refine lv_iload hx hb d_MD_size_119 (lv_at hl 5 rfl) ?_
                  refine lv_isub hx hb d_MD_size_121 ?_
                  refine lv_iload hx hb d_MD_size_122 (lv_at hl 0 rfl) ?_
                  refine lv_isub hx hb d_MD_size_124 ?_
                  exact W.iret hx hb hr (fun t ht _ => ⟨_, rfl, Option.some.inj h, ht⟩) (fun _ hq => nomatch hq) d_MD_size_125
                · rw [if_pos c37] at h
                  refine lv_iload hx hb d_MD_size_107 (lv_at hl 0 rfl) ?_
                  refine lv_goto (tgt := 125) hx hb d_MD_size_109 (by decide) ?_
                  exact W.iret hx hb hr (fun t ht _ => ⟨_, rfl, Option.some.inj h, ht⟩) (fun _ hq => nomatch hq) d_MD_size_125
              · rw [if_pos c36] at h
                refine lv_iload hx hb d_MD_size_97 (lv_at hl 5 rfl) ?_
                refine lv_goto (tgt := 125) hx hb d_MD_size_99 (by decide) ?_
                exact W.iret hx hb hr (fun t ht _ => ⟨_, rfl, Option.some.inj h, ht⟩) (fun _ hq => nomatch hq) d_MD_size_125
            exact k91 x2 x3 x4 x5 s0 x4 h _ (lv_sub hl [2, 3, 4, 5, 1] rfl)
        · rw [if_neg c29] at h
          refine lv_iload_n hx hb d_MD_size_69 rfl (lv_at hl 2 rfl) ?_
          refine lv_goto (tgt := 75) hx hb d_MD_size_70 (by decide) ?_
          refine lv_istore (lv' := [(7, .int x3), (6, .int s0), (2, .int x2), (3, .int x3), (4, .int x4), (5, .int x5)]) hx hb d_MD_size_75 hl (by decide) rfl (fun ls hl => ?_)
          refine lv_iload hx hb d_MD_size_77 (lv_at hl 0 rfl) ?_
          refine lv_iload hx hb d_MD_size_79 (lv_at hl 5 rfl) ?_
          refine lv_icmp_le (tgt := 89) hx hb d_MD_size_81 (by decide) (fun c30 => ?_) (fun c30 => ?_)
          · rw [if_pos c30] at h
            refine lv_iload hx hb d_MD_size_89 (lv_at hl 5 rfl) ?_
            have k91 : ∀ (x2 : Int32) (x3 : Int32) (x4 : Int32) (x5 : Int32) (x6 : Int32) (s0 : Int32) (h : C_MD_size_91 σ x2 x3 x4 x5 x6 s0 = some out) (ls : Array Slot) (hl : lv_has ls 8 [(2, .int x2), (3, .int x3), (4, .int x4), (5, .int x5), (6, .int x6)]), W p l e (headSpec wl_MD_size ({ frames := 0, cells := 0, slots := 0, locals := 0 } : Room)).room s m (([.ref (ad 0), .int a1, .int a2] : List Value).toArray) below meth c s.heap [] 0 0 (MQ below (vp_Si (fun r => r = out)) (([.ref (ad 0), .int a1, .int a2] : List Value).toArray) s 0 0 (fun _ => False)) (F0 m 91 ls [.int s0]) := by
              intro x2 x3 x4 x5 x6 s0 h ls hl
              unfold C_MD_size_91 at h
              refine lv_istore (lv' := [(7, .int s0), (2, .int x2), (3, .int x3), (4, .int x4), (5, .int x5), (6, .int x6)]) hx hb d_MD_size_91 hl (by decide) rfl (fun ls hl => ?_)
              refine lv_iload_n hx hb d_MD_size_93 rfl (lv_at hl 1 rfl) ?_
              refine lv_if_ne (tgt := 102) hx hb d_MD_size_94 (by decide) (fun c33 => ?_) (fun c33 => ?_)
              · rw [if_neg c33] at h
                refine lv_iload_n hx hb d_MD_size_102 rfl (lv_at hl 1 rfl) ?_
                refine lv_iconst (v := 2) hx hb d_MD_size_103 (by decide) ?_
                refine lv_icmp_ne (tgt := 112) hx hb d_MD_size_104 (by decide) (fun c34 => ?_) (fun c34 => ?_)
                · rw [if_neg c34] at h
                  refine lv_iload_n hx hb d_MD_size_112 rfl (lv_at hl 2 rfl) ?_
                  refine lv_iload hx hb d_MD_size_113 (lv_at hl 3 rfl) ?_
                  refine lv_iadd hx hb d_MD_size_115 ?_
                  refine lv_iload hx hb d_MD_size_116 (lv_at hl 4 rfl) ?_
                  refine lv_iadd hx hb d_MD_size_118 ?_
                  refine lv_iload hx hb d_MD_size_119 (lv_at hl 5 rfl) ?_
                  refine lv_isub hx hb d_MD_size_121 ?_
                  refine lv_iload hx hb d_MD_size_122 (lv_at hl 0 rfl) ?_
                  refine lv_isub hx hb d_MD_size_124 ?_
                  exact W.iret hx hb hr (fun t ht _ => ⟨_, rfl, Option.some.inj h, ht⟩) (fun _ hq => nomatch hq) d_MD_size_125
                · rw [if_pos c34] at h
                  refine lv_iload hx hb d_MD_size_107 (lv_at hl 0 rfl) ?_
                  refine lv_goto (tgt := 125) hx hb d_MD_size_109 (by decide) ?_
                  exact W.iret hx hb hr (fun t ht _ => ⟨_, rfl, Option.some.inj h, ht⟩) (fun _ hq => nomatch hq) d_MD_size_125
              · rw [if_pos c33] at h
                refine lv_iload hx hb d_MD_size_97 (lv_at hl 5 rfl) ?_
                refine lv_goto (tgt := 125) hx hb d_MD_size_99 (by decide) ?_
                exact W.iret hx hb hr (fun t ht _ => ⟨_, rfl, Option.some.inj h, ht⟩) (fun _ hq => nomatch hq) d_MD_size_125
            exact k91 x2 x3 x4 x5 s0 x5 h _ (lv_sub hl [2, 3, 4, 5, 1] rfl)
          · rw [if_neg c30] at h
            refine lv_iload hx hb d_MD_size_84 (lv_at hl 0 rfl) ?_
            refine lv_goto (tgt := 91) hx hb d_MD_size_86 (by decide) ?_
            have k91 : ∀ (x2 : Int32) (x3 : Int32) (x4 : Int32) (x5 : Int32) (x6 : Int32) (s0 : Int32) (h : C_MD_size_91 σ x2 x3 x4 x5 x6 s0 = some out) (ls : Array Slot) (hl : lv_has ls 8 [(2, .int x2), (3, .int x3), (4, .int x4), (5, .int x5), (6, .int x6)]), W p l e (headSpec wl_MD_size ({ frames := 0, cells := 0, slots := 0, locals := 0 } : Room)).room s m (([.ref (ad 0), .int a1, .int a2] : List Value).toArray) below meth c s.heap [] 0 0 (MQ below (vp_Si (fun r => r = out)) (([.ref (ad 0), .int a1, .int a2] : List Value).toArray) s 0 0 (fun _ => False)) (F0 m 91 ls [.int s0]) := by
              intro x2 x3 x4 x5 x6 s0 h ls hl
              unfold C_MD_size_91 at h
              refine lv_istore (lv' := [(7, .int s0), (2, .int x2), (3, .int x3), (4, .int x4), (5, .int x5), (6, .int x6)]) hx hb d_MD_size_91 hl (by decide) rfl (fun ls hl => ?_)
              refine lv_iload_n hx hb d_MD_size_93 rfl (lv_at hl 1 rfl) ?_
              refine lv_if_ne (tgt := 102) hx hb d_MD_size_94 (by decide) (fun c31 => ?_) (fun c31 => ?_)
              · rw [if_neg c31] at h
                refine lv_iload_n hx hb d_MD_size_102 rfl (lv_at hl 1 rfl) ?_
                refine lv_iconst (v := 2) hx hb d_MD_size_103 (by decide) ?_
                refine lv_icmp_ne (tgt := 112) hx hb d_MD_size_104 (by decide) (fun c32 => ?_) (fun c32 => ?_)
                · rw [if_neg c32] at h
                  refine lv_iload_n hx hb d_MD_size_112 rfl (lv_at hl 2 rfl) ?_
                  refine lv_iload hx hb d_MD_size_113 (lv_at hl 3 rfl) ?_
                  refine lv_iadd hx hb d_MD_size_115 ?_
                  refine lv_iload hx hb d_MD_size_116 (lv_at hl 4 rfl) ?_
                  refine lv_iadd hx hb d_MD_size_118 ?_
                  refine lv_iload hx hb d_MD_size_119 (lv_at hl 5 rfl) ?_
                  refine lv_isub hx hb d_MD_size_121 ?_
                  refine lv_iload hx hb d_MD_size_122 (lv_at hl 0 rfl) ?_
                  refine lv_isub hx hb d_MD_size_124 ?_
                  exact W.iret hx hb hr (fun t ht _ => ⟨_, rfl, Option.some.inj h, ht⟩) (fun _ hq => nomatch hq) d_MD_size_125
                · rw [if_pos c32] at h
                  refine lv_iload hx hb d_MD_size_107 (lv_at hl 0 rfl) ?_
                  refine lv_goto (tgt := 125) hx hb d_MD_size_109 (by decide) ?_
                  exact W.iret hx hb hr (fun t ht _ => ⟨_, rfl, Option.some.inj h, ht⟩) (fun _ hq => nomatch hq) d_MD_size_125
              · rw [if_pos c31] at h
                refine lv_iload hx hb d_MD_size_97 (lv_at hl 5 rfl) ?_
                refine lv_goto (tgt := 125) hx hb d_MD_size_99 (by decide) ?_
                exact W.iret hx hb hr (fun t ht _ => ⟨_, rfl, Option.some.inj h, ht⟩) (fun _ hq => nomatch hq) d_MD_size_125
            exact k91 x2 x3 x4 x5 s0 x3 h _ (lv_sub hl [2, 3, 4, 5, 1] rfl)
      exact k61 a2 y1 y2 y3 y2 h _ (lv_sub hl [6, 3, 2, 1] rfl)
  · rw [if_neg c4] at h
    refine lv_iload_n hx hb d_MD_size_39 rfl (lv_at hl 2 rfl) ?_
    refine lv_goto (tgt := 45) hx hb d_MD_size_40 (by decide) ?_
    refine lv_istore (lv' := [(6, .int y1), (5, .int y3), (4, .int y2), (3, .int y1), (0, .ref (ad 0)), (1, .int a1), (2, .int a2)]) hx hb d_MD_size_45 hl (by decide) rfl (fun ls hl => ?_)
    refine lv_iload hx hb d_MD_size_47 (lv_at hl 0 rfl) ?_
    refine lv_iload hx hb d_MD_size_49 (lv_at hl 1 rfl) ?_
    refine lv_icmp_ge (tgt := 59) hx hb d_MD_size_51 (by decide) (fun c5 => ?_) (fun c5 => ?_)
    · rw [if_pos c5] at h
      refine lv_iload hx hb d_MD_size_59 (lv_at hl 1 rfl) ?_
      have k61 : ∀ (x2 : Int32) (x3 : Int32) (x4 : Int32) (x5 : Int32) (s0 : Int32) (h : C_MD_size_61 σ x2 x3 x4 x5 s0 = some out) (ls : Array Slot) (hl : lv_has ls 8 [(2, .int x2), (3, .int x3), (4, .int x4), (5, .int x5)]), W p l e (headSpec wl_MD_size ({ frames := 0, cells := 0, slots := 0, locals := 0 } : Room)).room s m (([.ref (ad 0), .int a1, .int a2] : List Value).toArray) below meth c s.heap [] 0 0 (MQ below (vp_Si (fun r => r = out)) (([.ref (ad 0), .int a1, .int a2] : List Value).toArray) s 0 0 (fun _ => False)) (F0 m 61 ls [.int s0]) := by
        intro x2 x3 x4 x5 s0 h ls hl
        unfold C_MD_size_61 at h
        refine lv_istore (lv' := [(6, .int s0), (2, .int x2), (3, .int x3), (4, .int x4), (5, .int x5)]) hx hb d_MD_size_61 hl (by decide) rfl (fun ls hl => ?_)
        refine lv_iload_n hx hb d_MD_size_63 rfl (lv_at hl 2 rfl) ?_
        refine lv_iload hx hb d_MD_size_64 (lv_at hl 3 rfl) ?_
        refine lv_icmp_le (tgt := 73) hx hb d_MD_size_66 (by decide) (fun c17 => ?_) (fun c17 => ?_)
        · rw [if_pos c17] at h
          refine lv_iload hx hb d_MD_size_73 (lv_at hl 3 rfl) ?_
          refine lv_istore (lv' := [(7, .int x4), (6, .int s0), (2, .int x2), (3, .int x3), (4, .int x4), (5, .int x5)]) hx hb d_MD_size_75 hl (by decide) rfl (fun ls hl => ?_)
          refine lv_iload hx hb d_MD_size_77 (lv_at hl 0 rfl) ?_
          refine lv_iload hx hb d_MD_size_79 (lv_at hl 5 rfl) ?_
          refine lv_icmp_le (tgt := 89) hx hb d_MD_size_81 (by decide) (fun c23 => ?_) (fun c23 => ?_)
          · rw [if_pos c23] at h
            refine lv_iload hx hb d_MD_size_89 (lv_at hl 5 rfl) ?_
            have k91 : ∀ (x2 : Int32) (x3 : Int32) (x4 : Int32) (x5 : Int32) (x6 : Int32) (s0 : Int32) (h : C_MD_size_91 σ x2 x3 x4 x5 x6 s0 = some out) (ls : Array Slot) (hl : lv_has ls 8 [(2, .int x2), (3, .int x3), (4, .int x4), (5, .int x5), (6, .int x6)]), W p l e (headSpec wl_MD_size ({ frames := 0, cells := 0, slots := 0, locals := 0 } : Room)).room s m (([.ref (ad 0), .int a1, .int a2] : List Value).toArray) below meth c s.heap [] 0 0 (MQ below (vp_Si (fun r => r = out)) (([.ref (ad 0), .int a1, .int a2] : List Value).toArray) s 0 0 (fun _ => False)) (F0 m 91 ls [.int s0]) := by
              intro x2 x3 x4 x5 x6 s0 h ls hl
              unfold C_MD_size_91 at h
              refine lv_istore (lv' := [(7, .int s0), (2, .int x2), (3, .int x3), (4, .int x4), (5, .int x5), (6, .int x6)]) hx hb d_MD_size_91 hl (by decide) rfl (fun ls hl => ?_)
              refine lv_iload_n hx hb d_MD_size_93 rfl (lv_at hl 1 rfl) ?_
              refine lv_if_ne (tgt := 102) hx hb d_MD_size_94 (by decide) (fun c26 => ?_) (fun c26 => ?_)
              · rw [if_neg c26] at h
                refine lv_iload_n hx hb d_MD_size_102 rfl (lv_at hl 1 rfl) ?_
                refine lv_iconst (v := 2) hx hb d_MD_size_103 (by decide) ?_
                refine lv_icmp_ne (tgt := 112) hx hb d_MD_size_104 (by decide) (fun c27 => ?_) (fun c27 => ?_)
                · rw [if_neg c27] at h
                  refine lv_iload_n hx hb d_MD_size_112 rfl (lv_at hl 2 rfl) ?_
                  refine lv_iload hx hb d_MD_size_113 (lv_at hl 3 rfl) ?_
                  refine lv_iadd hx hb d_MD_size_115 ?_
                  refine lv_iload hx hb d_MD_size_116 (lv_at hl 4 rfl) ?_
                  refine lv_iadd hx hb d_MD_size_118 ?_
                  refine lv_iload hx hb d_MD_size_119 (lv_at hl 5 rfl) ?_
                  refine lv_isub hx hb d_MD_size_121 ?_
                  refine lv_iload hx hb d_MD_size_122 (lv_at hl 0 rfl) ?_
                  refine lv_isub hx hb d_MD_size_124 ?_
                  exact W.iret hx hb hr (fun t ht _ => ⟨_, rfl, Option.some.inj h, ht⟩) (fun _ hq => nomatch hq) d_MD_size_125
                · rw [if_pos c27] at h
                  refine lv_iload hx hb d_MD_size_107 (lv_at hl 0 rfl) ?_
                  refine lv_goto (tgt := 125) hx hb d_MD_size_109 (by decide) ?_
                  exact W.iret hx hb hr (fun t ht _ => ⟨_, rfl, Option.some.inj h, ht⟩) (fun _ hq => nomatch hq) d_MD_size_125
              · rw [if_pos c26] at h
                refine lv_iload hx hb d_MD_size_97 (lv_at hl 5 rfl) ?_
                refine lv_goto (tgt := 125) hx hb d_MD_size_99 (by decide) ?_
                exact W.iret hx hb hr (fun t ht _ => ⟨_, rfl, Option.some.inj h, ht⟩) (fun _ hq => nomatch hq) d_MD_size_125
            exact k91 x2 x3 x4 x5 s0 x5 h _ (lv_sub hl [2, 3, 4, 5, 1] rfl)
          · rw [if_neg c23] at h
            refine lv_iload hx hb d_MD_size_84 (lv_at hl 0 rfl) ?_
            refine lv_goto (tgt := 91) hx hb d_MD_size_86 (by decide) ?_
            have k91 : ∀ (x2 : Int32) (x3 : Int32) (x4 : Int32) (x5 : Int32) (x6 : Int32) (s0 : Int32) (h : C_MD_size_91 σ x2 x3 x4 x5 x6 s0 = some out) (ls : Array Slot) (hl : lv_has ls 8 [(2, .int x2), (3, .int x3), (4, .int x4), (5, .int x5), (6, .int x6)]), W p l e (headSpec wl_MD_size ({ frames := 0, cells := 0, slots := 0, locals := 0 } : Room)).room s m (([.ref (ad 0), .int a1, .int a2] : List Value).toArray) below meth c s.heap [] 0 0 (MQ below (vp_Si (fun r => r = out)) (([.ref (ad 0), .int a1, .int a2] : List Value).toArray) s 0 0 (fun _ => False)) (F0 m 91 ls [.int s0]) := by
              intro x2 x3 x4 x5 x6 s0 h ls hl
              unfold C_MD_size_91 at h
              refine lv_istore (lv' := [(7, .int s0), (2, .int x2), (3, .int x3), (4, .int x4), (5, .int x5), (6, .int x6)]) hx hb d_MD_size_91 hl (by decide) rfl (fun ls hl => ?_)
              refine lv_iload_n hx hb d_MD_size_93 rfl (lv_at hl 1 rfl) ?_
              refine lv_if_ne (tgt := 102) hx hb d_MD_size_94 (by decide) (fun c24 => ?_) (fun c24 => ?_)
              · rw [if_neg c24] at h
                refine lv_iload_n hx hb d_MD_size_102 rfl (lv_at hl 1 rfl) ?_
                refine lv_iconst (v := 2) hx hb d_MD_size_103 (by decide) ?_
                refine lv_icmp_ne (tgt := 112) hx hb d_MD_size_104 (by decide) (fun c25 => ?_) (fun c25 => ?_)
                · rw [if_neg c25] at h
                  refine lv_iload_n hx hb d_MD_size_112 rfl (lv_at hl 2 rfl) ?_
                  refine lv_iload hx hb d_MD_size_113 (lv_at hl 3 rfl) ?_
                  refine lv_iadd hx hb d_MD_size_115 ?_
                  refine lv_iload hx hb d_MD_size_116 (lv_at hl 4 rfl) ?_
                  refine lv_iadd hx hb d_MD_size_118 ?_
                  refine lv_iload hx hb d_MD_size_119 (lv_at hl 5 rfl) ?_
                  refine lv_isub hx hb d_MD_size_121 ?_
                  refine lv_iload hx hb d_MD_size_122 (lv_at hl 0 rfl) ?_
                  refine lv_isub hx hb d_MD_size_124 ?_
                  exact W.iret hx hb hr (fun t ht _ => ⟨_, rfl, Option.some.inj h, ht⟩) (fun _ hq => nomatch hq) d_MD_size_125
                · rw [if_pos c25] at h
                  refine lv_iload hx hb d_MD_size_107 (lv_at hl 0 rfl) ?_
                  refine lv_goto (tgt := 125) hx hb d_MD_size_109 (by decide) ?_
                  exact W.iret hx hb hr (fun t ht _ => ⟨_, rfl, Option.some.inj h, ht⟩) (fun _ hq => nomatch hq) d_MD_size_125
              · rw [if_pos c24] at h
                refine lv_iload hx hb d_MD_size_97 (lv_at hl 5 rfl) ?_
                refine lv_goto (tgt := 125) hx hb d_MD_size_99 (by decide) ?_
                exact W.iret hx hb hr (fun t ht _ => ⟨_, rfl, Option.some.inj h, ht⟩) (fun _ hq => nomatch hq) d_MD_size_125
            exact k91 x2 x3 x4 x5 s0 x4 h _ (lv_sub hl [2, 3, 4, 5, 1] rfl)
        · rw [if_neg c17] at h
          refine lv_iload_n hx hb d_MD_size_69 rfl (lv_at hl 2 rfl) ?_
          refine lv_goto (tgt := 75) hx hb d_MD_size_70 (by decide) ?_
          refine lv_istore (lv' := [(7, .int x3), (6, .int s0), (2, .int x2), (3, .int x3), (4, .int x4), (5, .int x5)]) hx hb d_MD_size_75 hl (by decide) rfl (fun ls hl => ?_)
          refine lv_iload hx hb d_MD_size_77 (lv_at hl 0 rfl) ?_
          refine lv_iload hx hb d_MD_size_79 (lv_at hl 5 rfl) ?_
          refine lv_icmp_le (tgt := 89) hx hb d_MD_size_81 (by decide) (fun c18 => ?_) (fun c18 => ?_)
          · rw [if_pos c18] at h
            refine lv_iload hx hb d_MD_size_89 (lv_at hl 5 rfl) ?_
            have k91 : ∀ (x2 : Int32) (x3 : Int32) (x4 : Int32) (x5 : Int32) (x6 : Int32) (s0 : Int32) (h : C_MD_size_91 σ x2 x3 x4 x5 x6 s0 = some out) (ls : Array Slot) (hl : lv_has ls 8 [(2, .int x2), (3, .int x3), (4, .int x4), (5, .int x5), (6, .int x6)]), W p l e (headSpec wl_MD_size ({ frames := 0, cells := 0, slots := 0, locals := 0 } : Room)).room s m (([.ref (ad 0), .int a1, .int a2] : List Value).toArray) below meth c s.heap [] 0 0 (MQ below (vp_Si (fun r => r = out)) (([.ref (ad 0), .int a1, .int a2] : List Value).toArray) s 0 0 (fun _ => False)) (F0 m 91 ls [.int s0]) := by
              intro x2 x3 x4 x5 x6 s0 h ls hl
              unfold C_MD_size_91 at h
              refine lv_istore (lv' := [(7, .int s0), (2, .int x2), (3, .int x3), (4, .int x4), (5, .int x5), (6, .int x6)]) hx hb d_MD_size_91 hl (by decide) rfl (fun ls hl => ?_)
              refine lv_iload_n hx hb d_MD_size_93 rfl (lv_at hl 1 rfl) ?_
              refine lv_if_ne (tgt := 102) hx hb d_MD_size_94 (by decide) (fun c21 => ?_) (fun c21 => ?_)
              · rw [if_neg c21] at h
                refine lv_iload_n hx hb d_MD_size_102 rfl (lv_at hl 1 rfl) ?_
                refine lv_iconst (v := 2) hx hb d_MD_size_103 (by decide) ?_
                refine lv_icmp_ne (tgt := 112) hx hb d_MD_size_104 (by decide) (fun c22 => ?_) (fun c22 => ?_)
                · rw [if_neg c22] at h
                  refine lv_iload_n hx hb d_MD_size_112 rfl (lv_at hl 2 rfl) ?_
                  refine lv_iload hx hb d_MD_size_113 (lv_at hl 3 rfl) ?_
                  refine lv_iadd hx hb d_MD_size_115 ?_
                  refine lv_iload hx hb d_MD_size_116 (lv_at hl 4 rfl) ?_
                  refine lv_iadd hx hb d_MD_size_118 ?_
                  refine lv_iload hx hb d_MD_size_119 (lv_at hl 5 rfl) ?_
                  refine lv_isub hx hb d_MD_size_121 ?_
                  refine lv_iload hx hb d_MD_size_122 (lv_at hl 0 rfl) ?_
                  refine lv_isub hx hb d_MD_size_124 ?_
                  exact W.iret hx hb hr (fun t ht _ => ⟨_, rfl, Option.some.inj h, ht⟩) (fun _ hq => nomatch hq) d_MD_size_125
                · rw [if_pos c22] at h
                  refine lv_iload hx hb d_MD_size_107 (lv_at hl 0 rfl) ?_
                  refine lv_goto (tgt := 125) hx hb d_MD_size_109 (by decide) ?_
                  exact W.iret hx hb hr (fun t ht _ => ⟨_, rfl, Option.some.inj h, ht⟩) (fun _ hq => nomatch hq) d_MD_size_125
              · rw [if_pos c21] at h
                refine lv_iload hx hb d_MD_size_97 (lv_at hl 5 rfl) ?_
                refine lv_goto (tgt := 125) hx hb d_MD_size_99 (by decide) ?_
                exact W.iret hx hb hr (fun t ht _ => ⟨_, rfl, Option.some.inj h, ht⟩) (fun _ hq => nomatch hq) d_MD_size_125
            exact k91 x2 x3 x4 x5 s0 x5 h _ (lv_sub hl [2, 3, 4, 5, 1] rfl)
          · rw [if_neg c18] at h
            refine lv_iload hx hb d_MD_size_84 (lv_at hl 0 rfl) ?_
            refine lv_goto (tgt := 91) hx hb d_MD_size_86 (by decide) ?_
            have k91 : ∀ (x2 : Int32) (x3 : Int32) (x4 : Int32) (x5 : Int32) (x6 : Int32) (s0 : Int32) (h : C_MD_size_91 σ x2 x3 x4 x5 x6 s0 = some out) (ls : Array Slot) (hl : lv_has ls 8 [(2, .int x2), (3, .int x3), (4, .int x4), (5, .int x5), (6, .int x6)]), W p l e (headSpec wl_MD_size ({ frames := 0, cells := 0, slots := 0, locals := 0 } : Room)).room s m (([.ref (ad 0), .int a1, .int a2] : List Value).toArray) below meth c s.heap [] 0 0 (MQ below (vp_Si (fun r => r = out)) (([.ref (ad 0), .int a1, .int a2] : List Value).toArray) s 0 0 (fun _ => False)) (F0 m 91 ls [.int s0]) := by
              intro x2 x3 x4 x5 x6 s0 h ls hl
              unfold C_MD_size_91 at h
              refine lv_istore (lv' := [(7, .int s0), (2, .int x2), (3, .int x3), (4, .int x4), (5, .int x5), (6, .int x6)]) hx hb d_MD_size_91 hl (by decide) rfl (fun ls hl => ?_)
              refine lv_iload_n hx hb d_MD_size_93 rfl (lv_at hl 1 rfl) ?_
              refine lv_if_ne (tgt := 102) hx hb d_MD_size_94 (by decide) (fun c19 => ?_) (fun c19 => ?_)
              · rw [if_neg c19] at h
                refine lv_iload_n hx hb d_MD_size_102 rfl (lv_at hl 1 rfl) ?_
                refine lv_iconst (v := 2) hx hb d_MD_size_103 (by decide) ?_
                refine lv_icmp_ne (tgt := 112) hx hb d_MD_size_104 (by decide) (fun c20 => ?_) (fun c20 => ?_)
                · rw [if_neg c20] at h
                  refine lv_iload_n hx hb d_MD_size_112 rfl (lv_at hl 2 rfl) ?_
                  refine lv_iload hx hb d_MD_size_113 (lv_at hl 3 rfl) ?_
                  refine lv_iadd hx hb d_MD_size_115 ?_
                  refine lv_iload hx hb d_MD_size_116 (lv_at hl 4 rfl) ?_
                  refine lv_iadd hx hb d_MD_size_118 ?_
                  refine lv_iload hx hb d_MD_size_119 (lv_at hl 5 rfl) ?_
                  refine lv_isub hx hb d_MD_size_121 ?_
                  refine lv_iload hx hb d_MD_size_122 (lv_at hl 0 rfl) ?_
                  refine lv_isub hx hb d_MD_size_124 ?_
                  exact W.iret hx hb hr (fun t ht _ => ⟨_, rfl, Option.some.inj h, ht⟩) (fun _ hq => nomatch hq) d_MD_size_125
                · rw [if_pos c20] at h
                  refine lv_iload hx hb d_MD_size_107 (lv_at hl 0 rfl) ?_
                  refine lv_goto (tgt := 125) hx hb d_MD_size_109 (by decide) ?_
                  exact W.iret hx hb hr (fun t ht _ => ⟨_, rfl, Option.some.inj h, ht⟩) (fun _ hq => nomatch hq) d_MD_size_125
              · rw [if_pos c19] at h
                refine lv_iload hx hb d_MD_size_97 (lv_at hl 5 rfl) ?_
                refine lv_goto (tgt := 125) hx hb d_MD_size_99 (by decide) ?_
                exact W.iret hx hb hr (fun t ht _ => ⟨_, rfl, Option.some.inj h, ht⟩) (fun _ hq => nomatch hq) d_MD_size_125
            exact k91 x2 x3 x4 x5 s0 x3 h _ (lv_sub hl [2, 3, 4, 5, 1] rfl)
      exact k61 a2 y1 y2 y3 y3 h _ (lv_sub hl [6, 3, 2, 1] rfl)
    · rw [if_neg c5] at h
      refine lv_iload hx hb d_MD_size_54 (lv_at hl 0 rfl) ?_
      refine lv_goto (tgt := 61) hx hb d_MD_size_56 (by decide) ?_
      have k61 : ∀ (x2 : Int32) (x3 : Int32) (x4 : Int32) (x5 : Int32) (s0 : Int32) (h : C_MD_size_61 σ x2 x3 x4 x5 s0 = some out) (ls : Array Slot) (hl : lv_has ls 8 [(2, .int x2), (3, .int x3), (4, .int x4), (5, .int x5)]), W p l e (headSpec wl_MD_size ({ frames := 0, cells := 0, slots := 0, locals := 0 } : Room)).room s m (([.ref (ad 0), .int a1, .int a2] : List Value).toArray) below meth c s.heap [] 0 0 (MQ below (vp_Si (fun r => r = out)) (([.ref (ad 0), .int a1, .int a2] : List Value).toArray) s 0 0 (fun _ => False)) (F0 m 61 ls [.int s0]) := by
        intro x2 x3 x4 x5 s0 h ls hl
        unfold C_MD_size_61 at h
        refine lv_istore (lv' := [(6, .int s0), (2, .int x2), (3, .int x3), (4, .int x4), (5, .int x5)]) hx hb d_MD_size_61 hl (by decide) rfl (fun ls hl => ?_)
        refine lv_iload_n hx hb d_MD_size_63 rfl (lv_at hl 2 rfl) ?_
        refine lv_iload hx hb d_MD_size_64 (lv_at hl 3 rfl) ?_
        refine lv_icmp_le (tgt := 73) hx hb d_MD_size_66 (by decide) (fun c6 => ?_) (fun c6 => ?_)
        · rw [if_pos c6] at h
          refine lv_iload hx hb d_MD_size_73 (lv_at hl 3 rfl) ?_
          refine lv_istore (lv' := [(7, .int x4), (6, .int s0), (2, .int x2), (3, .int x3), (4, .int x4), (5, .int x5)]) hx hb d_MD_size_75 hl (by decide) rfl (fun ls hl => ?_)
          refine lv_iload hx hb d_MD_size_77 (lv_at hl 0 rfl) ?_
          refine lv_iload hx hb d_MD_size_79 (lv_at hl 5 rfl) ?_
          refine lv_icmp_le (tgt := 89) hx hb d_MD_size_81 (by decide) (fun c12 => ?_) (fun c12 => ?_)
          · rw [if_pos c12] at h
            refine lv_iload hx hb d_MD_size_89 (lv_at hl 5 rfl) ?_
            have k91 : ∀ (x2 : Int32) (x3 : Int32) (x4 : Int32) (x5 : Int32) (x6 : Int32) (s0 : Int32) (h : C_MD_size_91 σ x2 x3 x4 x5 x6 s0 = some out) (ls : Array Slot) (hl : lv_has ls 8 [(2, .int x2), (3, .int x3), (4, .int x4), (5, .int x5), (6, .int x6)]), W p l e (headSpec wl_MD_size ({ frames := 0, cells := 0, slots := 0, locals := 0 } : Room)).room s m (([.ref (ad 0), .int a1, .int a2] : List Value).toArray) below meth c s.heap [] 0 0 (MQ below (vp_Si (fun r => r = out)) (([.ref (ad 0), .int a1, .int a2] : List Value).toArray) s 0 0 (fun _ => False)) (F0 m 91 ls [.int s0]) := by
              intro x2 x3 x4 x5 x6 s0 h ls hl
              unfold C_MD_size_91 at h
              refine lv_istore (lv' := [(7, .int s0), (2, .int x2), (3, .int x3), (4, .int x4), (5, .int x5), (6, .int x6)]) hx hb d_MD_size_91 hl (by decide) rfl (fun ls hl => ?_)
              refine lv_iload_n hx hb d_MD_size_93 rfl (lv_at hl 1 rfl) ?_
              refine lv_if_ne (tgt := 102) hx hb d_MD_size_94 (by decide) (fun c15 => ?_) (fun c15 => ?_)
              · rw [if_neg c15] at h
                refine lv_iload_n hx hb d_MD_size_102 rfl (lv_at hl 1 rfl) ?_
                refine lv_iconst (v := 2) hx hb d_MD_size_103 (by decide) ?_
                refine lv_icmp_ne (tgt := 112) hx hb d_MD_size_104 (by decide) (fun c16 => ?_) (fun c16 => ?_)
                · rw [if_neg c16] at h
                  refine lv_iload_n hx hb d_MD_size_112 rfl (lv_at hl 2 rfl) ?_
                  refine lv_iload hx hb d_MD_size_113 (lv_at hl 3 rfl) ?_
                  refine lv_iadd hx hb d_MD_size_115 ?_
                  refine lv_iload hx hb d_MD_size_116 (lv_at hl 4 rfl) ?_
                  refine lv_iadd hx hb d_MD_size_118 ?_
                  refine lv_iload hx hb d_MD_size_119 (lv_at hl 5 rfl) ?_
                  refine lv_isub hx hb d_MD_size_121 ?_
                  refine lv_iload hx hb d_MD_size_122 (lv_at hl 0 rfl) ?_
                  refine lv_isub hx hb d_MD_size_124 ?_
                  exact W.iret hx hb hr (fun t ht _ => ⟨_, rfl, Option.some.inj h, ht⟩) (fun _ hq => nomatch hq) d_MD_size_125
                · rw [if_pos c16] at h
                  refine lv_iload hx hb d_MD_size_107 (lv_at hl 0 rfl) ?_
                  refine lv_goto (tgt := 125) hx hb d_MD_size_109 (by decide) ?_
                  exact W.iret hx hb hr (fun t ht _ => ⟨_, rfl, Option.some.inj h, ht⟩) (fun _ hq => nomatch hq) d_MD_size_125
              · rw [if_pos c15] at h
                refine lv_iload hx hb d_MD_size_97 (lv_at hl 5 rfl) ?_
                refine lv_goto (tgt := 125) hx hb d_MD_size_99 (by decide) ?_
                exact W.iret hx hb hr (fun t ht _ => ⟨_, rfl, Option.some.inj h, ht⟩) (fun _ hq => nomatch hq) d_MD_size_125
            exact k91 x2 x3 x4 x5 s0 x5 h _ (lv_sub hl [2, 3, 4, 5, 1] rfl)
          · rw [if_neg c12] at h
            refine lv_iload hx hb d_MD_size_84 (lv_at hl 0 rfl) ?_
            refine lv_goto (tgt := 91) hx hb d_MD_size_86 (by decide) ?_
            have k91 : ∀ (x2 : Int32) (x3 : Int32) (x4 : Int32) (x5 : Int32) (x6 : Int32) (s0 : Int32) (h : C_MD_size_91 σ x2 x3 x4 x5 x6 s0 = some out) (ls : Array Slot) (hl : lv_has ls 8 [(2, .int x2), (3, .int x3), (4, .int x4), (5, .int x5), (6, .int x6)]), W p l e (headSpec wl_MD_size ({ frames := 0, cells := 0, slots := 0, locals := 0 } : Room)).room s m (([.ref (ad 0), .int a1, .int a2] : List Value).toArray) below meth c s.heap [] 0 0 (MQ below (vp_Si (fun r => r = out)) (([.ref (ad 0), .int a1, .int a2] : List Value).toArray) s 0 0 (fun _ => False)) (F0 m 91 ls [.int s0]) := by
              intro x2 x3 x4 x5 x6 s0 h ls hl
              unfold C_MD_size_91 at h
              refine lv_istore (lv' := [(7, .int s0), (2, .int x2), (3, .int x3), (4, .int x4), (5, .int x5), (6, .int x6)]) hx hb d_MD_size_91 hl (by decide) rfl (fun ls hl => ?_)
              refine lv_iload_n hx hb d_MD_size_93 rfl (lv_at hl 1 rfl) ?_
              refine lv_if_ne (tgt := 102) hx hb d_MD_size_94 (by decide) (fun c13 => ?_) (fun c13 => ?_)
              · rw [if_neg c13] at h
                refine lv_iload_n hx hb d_MD_size_102 rfl (lv_at hl 1 rfl) ?_
                refine lv_iconst (v := 2) hx hb d_MD_size_103 (by decide) ?_
                refine lv_icmp_ne (tgt := 112) hx hb d_MD_size_104 (by decide) (fun c14 => ?_) (fun c14 => ?_)
                · rw [if_neg c14] at h
                  refine lv_iload_n hx hb d_MD_size_112 rfl (lv_at hl 2 rfl) ?_
                  refine lv_iload hx hb d_MD_size_113 (lv_at hl 3 rfl) ?_
                  refine lv_iadd hx hb d_MD_size_115 ?_
                  refine lv_iload hx hb d_MD_size_116 (lv_at hl 4 rfl) ?_
                  refine lv_iadd hx hb d_MD_size_118 ?_
                  refine lv_iload hx hb d_MD_size_119 (lv_at hl 5 rfl) ?_
                  refine lv_isub hx hb d_MD_size_121 ?_
                  refine lv_iload hx hb d_MD_size_122 (lv_at hl 0 rfl) ?_
                  refine lv_isub hx hb d_MD_size_124 ?_
                  exact W.iret hx hb hr (fun t ht _ => ⟨_, rfl, Option.some.inj h, ht⟩) (fun _ hq => nomatch hq) d_MD_size_125
                · rw [if_pos c14] at h
                  refine lv_iload hx hb d_MD_size_107 (lv_at hl 0 rfl) ?_
                  refine lv_goto (tgt := 125) hx hb d_MD_size_109 (by decide) ?_
                  exact W.iret hx hb hr (fun t ht _ => ⟨_, rfl, Option.some.inj h, ht⟩) (fun _ hq => nomatch hq) d_MD_size_125
              · rw [if_pos c13] at h
                refine lv_iload hx hb d_MD_size_97 (lv_at hl 5 rfl) ?_
                refine lv_goto (tgt := 125) hx hb d_MD_size_99 (by decide) ?_
                exact W.iret hx hb hr (fun t ht _ => ⟨_, rfl, Option.some.inj h, ht⟩) (fun _ hq => nomatch hq) d_MD_size_125
            exact k91 x2 x3 x4 x5 s0 x4 h _ (lv_sub hl [2, 3, 4, 5, 1] rfl)
        · rw [if_neg c6] at h
          refine lv_iload_n hx hb d_MD_size_69 rfl (lv_at hl 2 rfl) ?_
          refine lv_goto (tgt := 75) hx hb d_MD_size_70 (by decide) ?_
          refine lv_istore (lv' := [(7, .int x3), (6, .int s0), (2, .int x2), (3, .int x3), (4, .int x4), (5, .int x5)]) hx hb d_MD_size_75 hl (by decide) rfl (fun ls hl => ?_)
          refine lv_iload hx hb d_MD_size_77 (lv_at hl 0 rfl) ?_
          refine lv_iload hx hb d_MD_size_79 (lv_at hl 5 rfl) ?_
          refine lv_icmp_le (tgt := 89) hx hb d_MD_size_81 (by decide) (fun c7 => ?_) (fun c7 => ?_)
          · rw [if_pos c7] at h
            refine lv_iload hx hb d_MD_size_89 (lv_at hl 5 rfl) ?_
            have k91 : ∀ (x2 : Int32) (x3 : Int32) (x4 : Int32) (x5 : Int32) (x6 : Int32) (s0 : Int32) (h : C_MD_size_91 σ x2 x3 x4 x5 x6 s0 = some out) (ls : Array Slot) (hl : lv_has ls 8 [(2, .int x2), (3, .int x3), (4, .int x4), (5, .int x5), (6, .int x6)]), W p l e (headSpec wl_MD_size ({ frames := 0, cells := 0, slots := 0, locals := 0 } : Room)).room s m (([.ref (ad 0), .int a1, .int a2] : List Value).toArray) below meth c s.heap [] 0 0 (MQ below (vp_Si (fun r => r = out)) (([.ref (ad 0), .int a1, .int a2] : List Value).toArray) s 0 0 (fun _ => False)) (F0 m 91 ls [.int s0]) := by
              intro x2 x3 x4 x5 x6 s0 h ls hl
              unfold C_MD_size_91 at h
              refine lv_istore (lv' := [(7, .int s0), (2, .int x2), (3, .int x3), (4, .int x4), (5, .int x5), (6, .int x6)]) hx hb d_MD_size_91 hl (by decide) rfl (fun ls hl => ?_)
              refine lv_iload_n hx hb d_MD_size_93 rfl (lv_at hl 1 rfl) ?_
              refine lv_if_ne (tgt := 102) hx hb d_MD_size_94 (by decide) (fun c10 => ?_) (fun c10 => ?_)
              · rw [if_neg c10] at h
                refine lv_iload_n hx hb d_MD_size_102 rfl (lv_at hl 1 rfl) ?_
                refine lv_iconst (v := 2) hx hb d_MD_size_103 (by decide) ?_
                refine lv_icmp_ne (tgt := 112) hx hb d_MD_size_104 (by decide) (fun c11 => ?_) (fun c11 => ?_)
                · rw [if_neg c11] at h
                  refine lv_iload_n hx hb d_MD_size_112 rfl (lv_at hl 2 rfl) ?_
                  refine lv_iload hx hb d_MD_size_113 (lv_at hl 3 rfl) ?_
                  refine lv_iadd hx hb d_MD_size_115 ?_
                  refine lv_iload hx hb d_MD_size_116 (lv_at hl 4 rfl) ?_
                  refine lv_iadd hx hb d_MD_size_118 ?_
                  refine lv_iload hx hb d_MD_size_119 (lv_at hl 5 rfl) ?_
                  refine lv_isub hx hb d_MD_size_121 ?_
                  refine lv_iload hx hb d_MD_size_122 (lv_at hl 0 rfl) ?_
                  refine lv_isub hx hb d_MD_size_124 ?_
                  exact W.iret hx hb hr (fun t ht _ => ⟨_, rfl, Option.some.inj h, ht⟩) (fun _ hq => nomatch hq) d_MD_size_125
                · rw [if_pos c11] at h
                  refine lv_iload hx hb d_MD_size_107 (lv_at hl 0 rfl) ?_
                  refine lv_goto (tgt := 125) hx hb d_MD_size_109 (by decide) ?_
                  exact W.iret hx hb hr (fun t ht _ => ⟨_, rfl, Option.some.inj h, ht⟩) (fun _ hq => nomatch hq) d_MD_size_125
              · rw [if_pos c10] at h
                refine lv_iload hx hb d_MD_size_97 (lv_at hl 5 rfl) ?_
                refine lv_goto (tgt := 125) hx hb d_MD_size_99 (by decide) ?_
                exact W.iret hx hb hr (fun t ht _ => ⟨_, rfl, Option.some.inj h, ht⟩) (fun _ hq => nomatch hq) d_MD_size_125
            exact k91 x2 x3 x4 x5 s0 x5 h _ (lv_sub hl [2, 3, 4, 5, 1] rfl)
          · rw [if_neg c7] at h
            refine lv_iload hx hb d_MD_size_84 (lv_at hl 0 rfl) ?_
            refine lv_goto (tgt := 91) hx hb d_MD_size_86 (by decide) ?_
            have k91 : ∀ (x2 : Int32) (x3 : Int32) (x4 : Int32) (x5 : Int32) (x6 : Int32) (s0 : Int32) (h : C_MD_size_91 σ x2 x3 x4 x5 x6 s0 = some out) (ls : Array Slot) (hl : lv_has ls 8 [(2, .int x2), (3, .int x3), (4, .int x4), (5, .int x5), (6, .int x6)]), W p l e (headSpec wl_MD_size ({ frames := 0, cells := 0, slots := 0, locals := 0 } : Room)).room s m (([.ref (ad 0), .int a1, .int a2] : List Value).toArray) below meth c s.heap [] 0 0 (MQ below (vp_Si (fun r => r = out)) (([.ref (ad 0), .int a1, .int a2] : List Value).toArray) s 0 0 (fun _ => False)) (F0 m 91 ls [.int s0]) := by
              intro x2 x3 x4 x5 x6 s0 h ls hl
              unfold C_MD_size_91 at h
              refine lv_istore (lv' := [(7, .int s0), (2, .int x2), (3, .int x3), (4, .int x4), (5, .int x5), (6, .int x6)]) hx hb d_MD_size_91 hl (by decide) rfl (fun ls hl => ?_)
              refine lv_iload_n hx hb d_MD_size_93 rfl (lv_at hl 1 rfl) ?_
              refine lv_if_ne (tgt := 102) hx hb d_MD_size_94 (by decide) (fun c8 => ?_) (fun c8 => ?_)
              · rw [if_neg c8] at h
                refine lv_iload_n hx hb d_MD_size_102 rfl (lv_at hl 1 rfl) ?_
                refine lv_iconst (v := 2) hx hb d_MD_size_103 (by decide) ?_
                refine lv_icmp_ne (tgt := 112) hx hb d_MD_size_104 (by decide) (fun c9 => ?_) (fun c9 => ?_)
                · rw [if_neg c9] at h
                  refine lv_iload_n hx hb d_MD_size_112 rfl (lv_at hl 2 rfl) ?_
                  refine lv_iload hx hb d_MD_size_113 (lv_at hl 3 rfl) ?_
                  refine lv_iadd hx hb d_MD_size_115 ?_
                  refine lv_iload hx hb d_MD_size_116 (lv_at hl 4 rfl) ?_
                  refine lv_iadd hx hb d_MD_size_118 ?_
                  refine lv_iload hx hb d_MD_size_119 (lv_at hl 5 rfl) ?_
                  refine lv_isub hx hb d_MD_size_121 ?_
                  refine lv_iload hx hb d_MD_size_122 (lv_at hl 0 rfl) ?_
                  refine lv_isub hx hb d_MD_size_124 ?_
                  exact W.iret hx hb hr (fun t ht _ => ⟨_, rfl, Option.some.inj h, ht⟩) (fun _ hq => nomatch hq) d_MD_size_125
                · rw [if_pos c9] at h
                  refine lv_iload hx hb d_MD_size_107 (lv_at hl 0 rfl) ?_
                  refine lv_goto (tgt := 125) hx hb d_MD_size_109 (by decide) ?_
                  exact W.iret hx hb hr (fun t ht _ => ⟨_, rfl, Option.some.inj h, ht⟩) (fun _ hq => nomatch hq) d_MD_size_125
              · rw [if_pos c8] at h
                refine lv_iload hx hb d_MD_size_97 (lv_at hl 5 rfl) ?_
                refine lv_goto (tgt := 125) hx hb d_MD_size_99 (by decide) ?_
                exact W.iret hx hb hr (fun t ht _ => ⟨_, rfl, Option.some.inj h, ht⟩) (fun _ hq => nomatch hq) d_MD_size_125
            exact k91 x2 x3 x4 x5 s0 x3 h _ (lv_sub hl [2, 3, 4, 5, 1] rfl)
      exact k61 a2 y1 y2 y3 y1 h _ (lv_sub hl [6, 3, 2, 1] rfl)
section RC
variable {p : Program} {l : Launch} {e : Env} {R : Room} {s : State} {m : MethodId} {args : Array Value} {below : List Frame} {meth : Method} {c : Code} {H : Heap} {locs : List Loc} {cells slots : Nat} {Q : State → Prop}
variable {cc : ByteArray} {pc : Nat} {ls : Array Slot} {rest : List Value} {G : va_G} {ad : Nat → Nat} {cI cZ : ClassId} {σ : Sg} {own : String}
theorem cl_MD_161 (C : CX "PlaceMovesModel" cc p s m args c G cI cZ) (hml : c.maxLocals = ls.size) (hP : va_P G clX (wR ad cI cZ σ) H) {x1 : Int32} {x2 : Int32} {r : Int32} (hg : f_MD_size σ x1 x2 = some r) (hR : 0 + 1 ≤ R.frames ∧ 8 + (8 + 11) + 0 ≤ R.locals) (hrest : (rest.map fun v => v.category).sum ≤ 8) (hd : decode cc pc = .ok (.invokevirtual 161, 3)) (hcs : cells + 0 ≤ R.cells ∧ slots + 0 ≤ R.slots) (kk : W p l e R s m args below meth c H locs cells slots Q (F0 m (pc + 3) ls (.int r :: rest))) : W p l e R s m args below meth c H locs cells slots Q (F0 m pc ls (.int x2 :: .int x1 :: .ref (ad 0) :: rest)) :=
  vp_callSi (W.runV (As := [.int x1, .int x2]) (rest := rest) ⟨C.1, C.2.1, hml, C.2.2.1, C.2.2.2.1⟩ (c_MD_size l G ad cI cZ σ x1 x2 r hg) (cwV 2 C.2.2.2.1 (wg_V w_800 w_802 ws_32 w_8 w_803) rfl rfl rfl (by decide +kernel) hR) ⟨PcR.blind, va_recv C.2.2.2.2.1 hP (ci := 7) (q0 := 0) rfl rfl, fun U hU hW => ⟨rfl, by rw [hU]; exact hP, C.2.2.2.2.warm hW⟩⟩ rfl rfl rfl rfl (lv_room hrest) hd hcs) (fun r' e => by subst e; exact kk)
end RC
