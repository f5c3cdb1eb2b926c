abbrev wl_MD_isPlanned : List Cond := .code ⟨"PlaceMovesModel", "isPlanned", "(III)Z"⟩ prog_9_method_17_code 5 (some FieldType.boolean) :: WG
set_option maxHeartbeats 4000000 in
set_option maxRecDepth 100000 in
theorem c_MD_isPlanned (l : Launch) (G : va_G) (ad : Nat → Nat) (cI cZ : ClassId) (σ : Sg) (a1 : Int32) (a2 : Int32) (a3 : Int32) (out : Int32) (h : f_MD_isPlanned σ a1 a2 a3 = some out) : Met l ⟨"PlaceMovesModel", "isPlanned", "(III)Z"⟩ wl_MD_isPlanned ({ frames := 1, cells := 0, slots := 0, locals := 23 } : Room) (PcR G ad cI cZ σ [.ref (ad 0), .int a1, .int a2, .int a3]) (vp_Si (fun r => r = out)) 0 0 (fun _ => False) := by
  refine Met.ofW (cc := prog_9_method_17_code) (maxL := 5) (ret := (some FieldType.boolean)) (by decide) rfl ?_
  intro p e s m args below meth c s₁ B hml hv
  obtain ⟨rfl, hP, hK⟩ := hv
  have hx := B.exec
  have hb := B.bytes
  have hr := B.returns
  have hts0 := atoms_spec (ws := wl_MD_isPlanned) B.pre
  have hts : ∀ w ∈ WG, w.before _ s = true := fun w hw => hts0 w (List.mem_cons_of_mem _ hw)
  have hown : s.vm.findClass "PlaceMovesModel" = some m.cls := findClass_of_methodNamed B.named
  have hlocks := B.notSynchronized
  have C : CX "PlaceMovesModel" prog_9_method_17_code p s m _ c G cI cZ := ⟨hx, hb, hown, hts, hK⟩
  have hl := lv_entry ([.ref (ad 0), .int a1, .int a2, .int a3]) (n := 5) (Nat.le_of_ble_eq_true rfl)
  rw [lg_entry_eq]
  generalize (lg_sl ([.ref (ad 0), .int a1, .int a2, .int a3]) ++ List.replicate (5 - (lg_sl ([.ref (ad 0), .int a1, .int a2, .int a3])).length) Slot.unset).toArray = ls at hl ⊢
  have hl : lv_has ls 5 [(0, .ref (ad 0)), (1, .int a1), (2, .int a2), (3, .int a3)] := hl
  unfold f_MD_isPlanned at h
  refine lv_iconst (v := 0) hx hb d_MD_isPlanned_0 (by decide) ?_
  refine lv_istore (lv' := [(4, .int 0), (0, .ref (ad 0)), (1, .int a1), (2, .int a2), (3, .int a3)]) hx hb d_MD_isPlanned_1 hl (by decide) rfl (fun ls hl => ?_)
  have k3 : ∀ (n3 : Nat) (x1 : Int32) (x2 : Int32) (x3 : Int32) (x4 : Int32) (h : L_MD_isPlanned_3 σ n3 x1 x2 x3 x4 = some out) (ls : Array Slot) (hl : lv_has ls 5 [(0, .ref (ad 0)), (1, .int x1), (2, .int x2), (3, .int x3), (4, .int x4)]), W p l e (headSpec wl_MD_isPlanned ({ frames := 1, cells := 0, slots := 0, locals := 23 } : Room)).room s m (([.ref (ad 0), .int a1, .int a2, .int a3] : List Value).toArray) below meth c s.heap [] 0 0 (MQ below (vp_Si (fun r => r = out)) (([.ref (ad 0), .int a1, .int a2, .int a3] : List Value).toArray) s 0 0 (fun _ => False)) (F0 m 3 ls []) := by
    intro n3
    induction n3 with
    | zero =>
      intro x1 x2 x3 x4 h
      exact absurd h (by intro z; cases z)
    | succ n3 ih3 =>
      intro x1 x2 x3 x4 h ls hl
      replace h : B_MD_isPlanned_3 σ (L_MD_isPlanned_3 σ n3) x1 x2 x3 x4 = some out := h
      unfold B_MD_isPlanned_3 at h
      refine lv_iload hx hb d_MD_isPlanned_3 (lv_at hl 4 rfl) ?_
      refine lv_aload_n hx hb d_MD_isPlanned_5 rfl (lv_at hl 0 rfl) ?_
      refine gf_MD_123 C hP d_MD_isPlanned_6 ?_
      refine lv_icmp_ge (tgt := 67) hx hb d_MD_isPlanned_9 (by decide) (fun c1 => ?_) (fun c1 => ?_)
      · rw [if_pos c1] at h
        refine lv_iconst (v := 0) hx hb d_MD_isPlanned_67 (by decide) ?_
        exact W.zret hx hb hr rfl (fun t ht _ => ⟨_, rfl, Option.some.inj h, ht⟩) (fun _ hq => nomatch hq) d_MD_isPlanned_68
      · rw [if_neg c1] at h
        refine lv_aload_n hx hb d_MD_isPlanned_12 rfl (lv_at hl 0 rfl) ?_
        refine gf_MD_59 C hP d_MD_isPlanned_13 ?_
        refine lv_iload hx hb d_MD_isPlanned_16 (lv_at hl 4 rfl) ?_
        obtain ⟨hin, h⟩ := gd_some h
        refine alR_17 C hP hin d_MD_isPlanned_18 ?_
        refine lv_iload_n hx hb d_MD_isPlanned_19 rfl (lv_at hl 1 rfl) ?_
        refine lv_icmp_ne (tgt := 61) hx hb d_MD_isPlanned_20 (by decide) (fun c2 => ?_) (fun c2 => ?_)
        · rw [if_neg c2] at h
          refine lv_iinc (v := x4 + 1) (lv' := [(4, .int (x4 + 1)), (0, .ref (ad 0)), (1, .int x1), (2, .int x2), (3, .int x3)]) hx hb d_MD_isPlanned_61 hl (k := 4) rfl rfl (by decide) rfl (fun ls hl => ?_)
          refine lv_goto (tgt := 3) hx hb d_MD_isPlanned_64 (by decide) ?_
          exact ih3 x1 x2 x3 (x4 + 1) h _ (lv_sub hl [1, 2, 3, 4, 0] rfl)
        · rw [if_pos c2] at h
          refine lv_iload_n hx hb d_MD_isPlanned_23 rfl (lv_at hl 3 rfl) ?_
          refine lv_aload_n hx hb d_MD_isPlanned_24 rfl (lv_at hl 0 rfl) ?_
          refine gf_MD_65 C hP d_MD_isPlanned_25 ?_
          refine lv_iload hx hb d_MD_isPlanned_28 (lv_at hl 4 rfl) ?_
          obtain ⟨hin, h⟩ := gd_some h
          refine alR_19 C hP hin d_MD_isPlanned_30 ?_
          refine lv_aload_n hx hb d_MD_isPlanned_31 rfl (lv_at hl 0 rfl) ?_
          refine gf_MD_68 C hP d_MD_isPlanned_32 ?_
          refine lv_iload hx hb d_MD_isPlanned_35 (lv_at hl 4 rfl) ?_
          obtain ⟨hin, h⟩ := gd_some h
          refine alR_20 C hP hin d_MD_isPlanned_37 ?_
          obtain ⟨r3, g_r3, h⟩ := ob_some h
          refine cl_MD_98 (rest := []) C (hml.trans hl.1.symm) hP g_r3 ⟨Nat.le_of_ble_eq_true rfl, Nat.le_of_ble_eq_true rfl⟩ (Nat.le_of_ble_eq_true rfl) d_MD_isPlanned_38 ⟨Nat.zero_le _, Nat.zero_le _⟩ ?_
          refine lv_if_eq (tgt := 61) hx hb d_MD_isPlanned_41 (by decide) (fun c4 => ?_) (fun c4 => ?_)
          · rw [if_pos c4] at h
            refine lv_iinc (v := x4 + 1) (lv' := [(4, .int (x4 + 1)), (0, .ref (ad 0)), (1, .int x1), (2, .int x2), (3, .int x3)]) hx hb d_MD_isPlanned_61 hl (k := 4) rfl rfl (by decide) rfl (fun ls hl => ?_)
            refine lv_goto (tgt := 3) hx hb d_MD_isPlanned_64 (by decide) ?_
            exact ih3 x1 x2 x3 (x4 + 1) h _ (lv_sub hl [1, 2, 3, 4, 0] rfl)
          · rw [if_neg c4] at h
            refine lv_aload_n hx hb d_MD_isPlanned_44 rfl (lv_at hl 0 rfl) ?_
            refine lv_aload_n hx hb d_MD_isPlanned_45 rfl (lv_at hl 0 rfl) ?_
            refine gf_MD_62 C hP d_MD_isPlanned_46 ?_
            refine lv_iload hx hb d_MD_isPlanned_49 (lv_at hl 4 rfl) ?_
            obtain ⟨hin, h⟩ := gd_some h
            refine alR_18 C hP hin d_MD_isPlanned_51 ?_
            refine lv_iload_n hx hb d_MD_isPlanned_52 rfl (lv_at hl 2 rfl) ?_
            obtain ⟨r5, g_r5, h⟩ := ob_some h
            refine cl_MD_126 (rest := []) C (hml.trans hl.1.symm) hP g_r5 ⟨Nat.le_of_ble_eq_true rfl, Nat.le_of_ble_eq_true rfl⟩ (Nat.le_of_ble_eq_true rfl) d_MD_isPlanned_53 ⟨Nat.zero_le _, Nat.zero_le _⟩ ?_
            refine lv_if_eq (tgt := 61) hx hb d_MD_isPlanned_56 (by decide) (fun c6 => ?_) (fun c6 => ?_)
            · rw [if_pos c6] at h
              refine lv_iinc (v := x4 + 1) (lv' := [(4, .int (x4 + 1)), (0, .ref (ad 0)), (1, .int x1), (2, .int x2), (3, .int x3)]) hx hb d_MD_isPlanned_61 hl (k := 4) rfl rfl (by decide) rfl (fun ls hl => ?_)
              refine lv_goto (tgt := 3) hx hb d_MD_isPlanned_64 (by decide) ?_
              exact ih3 x1 x2 x3 (x4 + 1) h _ (lv_sub hl [1, 2, 3, 4, 0] rfl)
            · rw [if_neg c6] at h
              refine lv_iconst (v := 1) hx hb d_MD_isPlanned_59 (by decide) ?_
              exact W.zret hx hb hr rfl (fun t ht _ => ⟨_, rfl, Option.some.inj h, ht⟩) (fun _ hq => nomatch hq) d_MD_isPlanned_60
  exact k3 _ a1 a2 a3 0 h _ (lv_sub hl [1, 2, 3, 4, 0] rfl)
section RC
variable {p : Program} {l : Launch} {e : Env} {R : Room} {s : State} {m : MethodId} {args : Array Value} {below : List Frame} {meth : Method} {c : Code} {H : Heap} {locs : List Loc} {cells slots : Nat} {Q : State → Prop}
variable {cc : ByteArray} {pc : Nat} {ls : Array Slot} {rest : List Value} {G : va_G} {ad : Nat → Nat} {cI cZ : ClassId} {σ : Sg} {own : String}
theorem cl_MD_133 (C : CX "PlaceMovesModel" cc p s m args c G cI cZ) (hml : c.maxLocals = ls.size) (hP : va_P G clX (wR ad cI cZ σ) H) {x1 : Int32} {x2 : Int32} {x3 : Int32} {r : Int32} (hg : f_MD_isPlanned σ x1 x2 x3 = some r) (hR : 1 + 1 ≤ R.frames ∧ 8 + (5 + 11) + 23 ≤ R.locals) (hrest : (rest.map fun v => v.category).sum ≤ 8) (hd : decode cc pc = .ok (.invokevirtual 133, 3)) (hcs : cells + 0 ≤ R.cells ∧ slots + 0 ≤ R.slots) (kk : W p l e R s m args below meth c H locs cells slots Q (F0 m (pc + 3) ls (.int r :: rest))) : W p l e R s m args below meth c H locs cells slots Q (F0 m pc ls (.int x3 :: .int x2 :: .int x1 :: .ref (ad 0) :: rest)) :=
  vp_callSi (W.runV (As := [.int x1, .int x2, .int x3]) (rest := rest) ⟨C.1, C.2.1, hml, C.2.2.1, C.2.2.2.1⟩ (c_MD_isPlanned l G ad cI cZ σ x1 x2 x3 r hg) (cwV 3 C.2.2.2.1 (wg_V w_780 w_782 ws_28 w_8 w_783) rfl rfl rfl (by decide +kernel) hR) ⟨PcR.blind, va_recv C.2.2.2.2.1 hP (ci := 7) (q0 := 0) rfl rfl, fun U hU hW => ⟨rfl, by rw [hU]; exact hP, C.2.2.2.2.warm hW⟩⟩ rfl rfl rfl rfl (lv_room hrest) hd hcs) (fun r' e => by subst e; exact kk)
end RC
abbrev wl_MD_weight : List Cond := .code ⟨"PlaceMovesModel", "weight", "(II)I"⟩ prog_9_method_18_code 5 (some FieldType.int) :: WG
set_option maxHeartbeats 4000000 in
set_option maxRecDepth 100000 in
theorem c_MD_weight (l : Launch) (G : va_G) (ad : Nat → Nat) (cI cZ : ClassId) (σ : Sg) (a1 : Int32) (a2 : Int32) (out : Int32) (h : f_MD_weight σ a1 a2 = some out) : Met l ⟨"PlaceMovesModel", "weight", "(II)I"⟩ wl_MD_weight ({ frames := 2, cells := 0, slots := 0, locals := 49 } : Room) (PcR G ad cI cZ σ [.ref (ad 0), .int a1, .int a2]) (vp_Si (fun r => r = out)) 0 0 (fun _ => False) := by
  refine Met.ofW (cc := prog_9_method_18_code) (maxL := 5) (ret := (some FieldType.int)) (by decide) rfl ?_
  intro p e s m args below meth c s₁ B hml hv
  obtain ⟨rfl, hP, hK⟩ := hv
  have hx := B.exec
  have hb := B.bytes
  have hr := B.returns
  have hts0 := atoms_spec (ws := wl_MD_weight) B.pre
  have hts : ∀ w ∈ WG, w.before _ s = true := fun w hw => hts0 w (List.mem_cons_of_mem _ hw)
  have hown : s.vm.findClass "PlaceMovesModel" = some m.cls := findClass_of_methodNamed B.named
  have hlocks := B.notSynchronized
  have C : CX "PlaceMovesModel" prog_9_method_18_code p s m _ c G cI cZ := ⟨hx, hb, hown, hts, hK⟩
  have hl := lv_entry ([.ref (ad 0), .int a1, .int a2]) (n := 5) (Nat.le_of_ble_eq_true rfl)
  rw [lg_entry_eq]
  generalize (lg_sl ([.ref (ad 0), .int a1, .int a2]) ++ List.replicate (5 - (lg_sl ([.ref (ad 0), .int a1, .int a2])).length) Slot.unset).toArray = ls at hl ⊢
  have hl : lv_has ls 5 [(0, .ref (ad 0)), (1, .int a1), (2, .int a2)] := hl
  unfold f_MD_weight at h
  refine lv_iconst (v := 0) hx hb d_MD_weight_0 (by decide) ?_
  refine lv_istore_n (lv' := [(3, .int 0), (0, .ref (ad 0)), (1, .int a1), (2, .int a2)]) hx hb d_MD_weight_1 rfl hl (by decide) rfl (fun ls hl => ?_)
  refine lv_iconst (v := 0) hx hb d_MD_weight_2 (by decide) ?_
  refine lv_istore (lv' := [(4, .int 0), (3, .int 0), (0, .ref (ad 0)), (1, .int a1), (2, .int a2)]) hx hb d_MD_weight_3 hl (by decide) rfl (fun ls hl => ?_)
  have k5 : ∀ (n5 : Nat) (x1 : Int32) (x2 : Int32) (x3 : Int32) (x4 : Int32) (h : L_MD_weight_5 σ n5 x1 x2 x3 x4 = some out) (ls : Array Slot) (hl : lv_has ls 5 [(0, .ref (ad 0)), (1, .int x1), (2, .int x2), (3, .int x3), (4, .int x4)]), W p l e (headSpec wl_MD_weight ({ frames := 2, cells := 0, slots := 0, locals := 49 } : Room)).room s m (([.ref (ad 0), .int a1, .int a2] : List Value).toArray) below meth c s.heap [] 0 0 (MQ below (vp_Si (fun r => r = out)) (([.ref (ad 0), .int a1, .int a2] : List Value).toArray) s 0 0 (fun _ => False)) (F0 m 5 ls []) := by
    intro n5
    induction n5 with
    | zero =>
      intro x1 x2 x3 x4 h
      exact absurd h (by intro z; cases z)
    | succ n5 ih5 =>
      intro x1 x2 x3 x4 h ls hl
      replace h : B_MD_weight_5 σ (L_MD_weight_5 σ n5) x1 x2 x3 x4 = some out := h
      unfold B_MD_weight_5 at h
      refine lv_iload hx hb d_MD_weight_5 (lv_at hl 4 rfl) ?_
      refine lv_aload_n hx hb d_MD_weight_7 rfl (lv_at hl 0 rfl) ?_
      refine gf_MD_90 C hP d_MD_weight_8 ?_
      refine lv_icmp_ge (tgt := 60) hx hb d_MD_weight_11 (by decide) (fun c1 => ?_) (fun c1 => ?_)
      · rw [if_pos c1] at h
        refine lv_iload_n hx hb d_MD_weight_60 rfl (lv_at hl 3 rfl) ?_
        exact W.iret hx hb hr (fun t ht _ => ⟨_, rfl, Option.some.inj h, ht⟩) (fun _ hq => nomatch hq) d_MD_weight_61
      · rw [if_neg c1] at h
        refine lv_aload_n hx hb d_MD_weight_14 rfl (lv_at hl 0 rfl) ?_
        refine lv_aload_n hx hb d_MD_weight_15 rfl (lv_at hl 0 rfl) ?_
        refine lv_iload hx hb d_MD_weight_16 (lv_at hl 4 rfl) ?_
        refine lv_iload_n hx hb d_MD_weight_18 rfl (lv_at hl 2 rfl) ?_
        obtain ⟨r2, g_r2, h⟩ := ob_some h
        refine cl_MD_130 (rest := [.ref (ad 0)]) C (hml.trans hl.1.symm) hP g_r2 ⟨Nat.le_of_ble_eq_true rfl, Nat.le_of_ble_eq_true rfl⟩ (Nat.le_of_ble_eq_true rfl) d_MD_weight_19 ⟨Nat.zero_le _, Nat.zero_le _⟩ ?_
        refine lv_iload_n hx hb d_MD_weight_22 rfl (lv_at hl 1 rfl) ?_
        obtain ⟨r3, g_r3, h⟩ := ob_some h
        refine cl_MD_126 (rest := []) C (hml.trans hl.1.symm) hP g_r3 ⟨Nat.le_of_ble_eq_true rfl, Nat.le_of_ble_eq_true rfl⟩ (Nat.le_of_ble_eq_true rfl) d_MD_weight_23 ⟨Nat.zero_le _, Nat.zero_le _⟩ ?_
        refine lv_if_ne (tgt := 40) hx hb d_MD_weight_26 (by decide) (fun c4 => ?_) (fun c4 => ?_)
        · rw [if_neg c4] at h
          refine lv_iload_n hx hb d_MD_weight_40 rfl (lv_at hl 3 rfl) ?_
          refine lv_aload_n hx hb d_MD_weight_41 rfl (lv_at hl 0 rfl) ?_
          refine gf_MD_19 C hP d_MD_weight_42 ?_
          refine lv_iload hx hb d_MD_weight_45 (lv_at hl 4 rfl) ?_
          obtain ⟨hin, h⟩ := gd_some h
          refine alR_4 C hP hin d_MD_weight_47 ?_
          refine lv_iadd hx hb d_MD_weight_48 ?_
          refine lv_goto (tgt := 53) hx hb d_MD_weight_49 (by decide) ?_
          obtain ⟨y8, e_y8, h⟩ := lt1_some h
          refine W.eq (g2 := F0 m 53 ls (.int y8 :: [])) (by rw [e_y8]) ?_
          refine lv_istore_n (lv' := [(3, .int y8), (0, .ref (ad 0)), (1, .int x1), (2, .int x2), (4, .int x4)]) hx hb d_MD_weight_53 rfl hl (by decide) rfl (fun ls hl => ?_)
          refine lv_iinc (v := x4 + 1) (lv' := [(4, .int (x4 + 1)), (3, .int y8), (0, .ref (ad 0)), (1, .int x1), (2, .int x2)]) hx hb d_MD_weight_54 hl (k := 4) rfl rfl (by decide) rfl (fun ls hl => ?_)
          refine lv_goto (tgt := 5) hx hb d_MD_weight_57 (by decide) ?_
          exact ih5 x1 x2 y8 (x4 + 1) h _ (lv_sub hl [2, 3, 4, 1, 0] rfl)
        · rw [if_pos c4] at h
          refine lv_aload_n hx hb d_MD_weight_29 rfl (lv_at hl 0 rfl) ?_
          refine lv_iload hx hb d_MD_weight_30 (lv_at hl 4 rfl) ?_
          refine lv_iload_n hx hb d_MD_weight_32 rfl (lv_at hl 1 rfl) ?_
          refine lv_iload_n hx hb d_MD_weight_33 rfl (lv_at hl 2 rfl) ?_
          obtain ⟨r5, g_r5, h⟩ := ob_some h
          refine cl_MD_133 (rest := []) C (hml.trans hl.1.symm) hP g_r5 ⟨Nat.le_of_ble_eq_true rfl, Nat.le_of_ble_eq_true rfl⟩ (Nat.le_of_ble_eq_true rfl) d_MD_weight_34 ⟨Nat.zero_le _, Nat.zero_le _⟩ ?_
          refine lv_if_eq (tgt := 52) hx hb d_MD_weight_37 (by decide) (fun c6 => ?_) (fun c6 => ?_)
          · rw [if_pos c6] at h
            refine lv_iload_n hx hb d_MD_weight_52 rfl (lv_at hl 3 rfl) ?_
            refine lv_istore_n (lv' := [(3, .int x3), (0, .ref (ad 0)), (1, .int x1), (2, .int x2), (4, .int x4)]) hx hb d_MD_weight_53 rfl hl (by decide) rfl (fun ls hl => ?_)
            refine lv_iinc (v := x4 + 1) (lv' := [(4, .int (x4 + 1)), (3, .int x3), (0, .ref (ad 0)), (1, .int x1), (2, .int x2)]) hx hb d_MD_weight_54 hl (k := 4) rfl rfl (by decide) rfl (fun ls hl => ?_)
            refine lv_goto (tgt := 5) hx hb d_MD_weight_57 (by decide) ?_
            exact ih5 x1 x2 x3 (x4 + 1) h _ (lv_sub hl [2, 3, 4, 1, 0] rfl)
          · rw [if_neg c6] at h
            refine lv_iload_n hx hb d_MD_weight_40 rfl (lv_at hl 3 rfl) ?_
            refine lv_aload_n hx hb d_MD_weight_41 rfl (lv_at hl 0 rfl) ?_
            refine gf_MD_19 C hP d_MD_weight_42 ?_
            refine lv_iload hx hb d_MD_weight_45 (lv_at hl 4 rfl) ?_
            obtain ⟨hin, h⟩ := gd_some h
            refine alR_4 C hP hin d_MD_weight_47 ?_
            refine lv_iadd hx hb d_MD_weight_48 ?_
            refine lv_goto (tgt := 53) hx hb d_MD_weight_49 (by decide) ?_
            obtain ⟨y7, e_y7, h⟩ := lt1_some h
            refine W.eq (g2 := F0 m 53 ls (.int y7 :: [])) (by rw [e_y7]) ?_
            refine lv_istore_n (lv' := [(3, .int y7), (0, .ref (ad 0)), (1, .int x1), (2, .int x2), (4, .int x4)]) hx hb d_MD_weight_53 rfl hl (by decide) rfl (fun ls hl => ?_)
            refine lv_iinc (v := x4 + 1) (lv' := [(4, .int (x4 + 1)), (3, .int y7), (0, .ref (ad 0)), (1, .int x1), (2, .int x2)]) hx hb d_MD_weight_54 hl (k := 4) rfl rfl (by decide) rfl (fun ls hl => ?_)
            refine lv_goto (tgt := 5) hx hb d_MD_weight_57 (by decide) ?_
            exact ih5 x1 x2 y7 (x4 + 1) h _ (lv_sub hl [2, 3, 4, 1, 0] rfl)
  exact k5 _ a1 a2 0 0 h _ (lv_sub hl [2, 3, 4, 1, 0] rfl)
section RC
variable {p : Program} {l : Launch} {e : Env} {R : Room} {s : State} {m : MethodId} {args : Array Value} {below : List Frame} {meth : Method} {c : Code} {H : Heap} {locs : List Loc} {cells slots : Nat} {Q : State → Prop}
variable {cc : ByteArray} {pc : Nat} {ls : Array Slot} {rest : List Value} {G : va_G} {ad : Nat → Nat} {cI cZ : ClassId} {σ : Sg} {own : String}
theorem cl_MD_136 (C : CX "PlaceMovesModel" cc p s m args c G cI cZ) (hml : c.maxLocals = ls.size) (hP : va_P G clX (wR ad cI cZ σ) H) {x1 : Int32} {x2 : Int32} {r : Int32} (hg : f_MD_weight σ x1 x2 = some r) (hR : 2 + 1 ≤ R.frames ∧ 8 + (5 + 11) + 49 ≤ R.locals) (hrest : (rest.map fun v => v.category).sum ≤ 8) (hd : decode cc pc = .ok (.invokevirtual 136, 3)) (hcs : cells + 0 ≤ R.cells ∧ slots + 0 ≤ R.slots) (kk : W p l e R s m args below meth c H locs cells slots Q (F0 m (pc + 3) ls (.int r :: rest))) : W p l e R s m args below meth c H locs cells slots Q (F0 m pc ls (.int x2 :: .int x1 :: .ref (ad 0) :: rest)) :=
  vp_callSi (W.runV (As := [.int x1, .int x2]) (rest := rest) ⟨C.1, C.2.1, hml, C.2.2.1, C.2.2.2.1⟩ (c_MD_weight l G ad cI cZ σ x1 x2 r hg) (cwV 2 C.2.2.2.1 (wg_V w_776 w_778 ws_27 w_8 w_779) rfl rfl rfl (by decide +kernel) hR) ⟨PcR.blind, va_recv C.2.2.2.2.1 hP (ci := 7) (q0 := 0) rfl rfl, fun U hU hW => ⟨rfl, by rw [hU]; exact hP, C.2.2.2.2.warm hW⟩⟩ rfl rfl rfl rfl (lv_room hrest) hd hcs) (fun r' e => by subst e; exact kk)
end RC
abbrev wl_MD_bears : List Cond := .code ⟨"PlaceMovesModel", "bears", "(II)Z"⟩ prog_9_method_19_code 5 (some FieldType.boolean) :: WG
set_option maxHeartbeats 4000000 in
set_option maxRecDepth 100000 in
theorem c_MD_bears (l : Launch) (G : va_G) (ad : Nat → Nat) (cI cZ : ClassId) (σ : Sg) (a1 : Int32) (a2 : Int32) (out : Int32) (h : f_MD_bears σ a1 a2 = some out) : Met l ⟨"PlaceMovesModel", "bears", "(II)Z"⟩ wl_MD_bears ({ frames := 3, cells := 0, slots := 0, locals := 73 } : Room) (PcR G ad cI cZ σ [.ref (ad 0), .int a1, .int a2]) (vp_Si (fun r => r = out)) 0 0 (fun _ => False) := by
  refine Met.ofW (cc := prog_9_method_19_code) (maxL := 5) (ret := (some FieldType.boolean)) (by decide) rfl ?_
  intro p e s m args below meth c s₁ B hml hv
  obtain ⟨rfl, hP, hK⟩ := hv
  have hx := B.exec
  have hb := B.bytes
  have hr := B.returns
  have hts0 := atoms_spec (ws := wl_MD_bears) B.pre
  have hts : ∀ w ∈ WG, w.before _ s = true := fun w hw => hts0 w (List.mem_cons_of_mem _ hw)
  have hown : s.vm.findClass "PlaceMovesModel" = some m.cls := findClass_of_methodNamed B.named
  have hlocks := B.notSynchronized
  have C : CX "PlaceMovesModel" prog_9_method_19_code p s m _ c G cI cZ := ⟨hx, hb, hown, hts, hK⟩
  have hl := lv_entry ([.ref (ad 0), .int a1, .int a2]) (n := 5) (Nat.le_of_ble_eq_true rfl)
  rw [lg_entry_eq]
  generalize (lg_sl ([.ref (ad 0), .int a1, .int a2]) ++ List.replicate (5 - (lg_sl ([.ref (ad 0), .int a1, .int a2])).length) Slot.unset).toArray = ls at hl ⊢
  have hl : lv_has ls 5 [(0, .ref (ad 0)), (1, .int a1), (2, .int a2)] := hl
  unfold f_MD_bears at h
  refine lv_iconst (v := 1) hx hb d_MD_bears_0 (by decide) ?_
  refine lv_istore_n (lv' := [(3, .int 1), (0, .ref (ad 0)), (1, .int a1), (2, .int a2)]) hx hb d_MD_bears_1 rfl hl (by decide) rfl (fun ls hl => ?_)
  refine lv_iload_n hx hb d_MD_bears_2 rfl (lv_at hl 2 rfl) ?_
  refine lv_istore (lv' := [(4, .int a1), (3, .int 1), (0, .ref (ad 0)), (1, .int a1), (2, .int a2)]) hx hb d_MD_bears_3 hl (by decide) rfl (fun ls hl => ?_)
  have k5 : ∀ (n5 : Nat) (x2 : Int32) (x3 : Int32) (x4 : Int32) (h : L_MD_bears_5 σ n5 x2 x3 x4 = some out) (ls : Array Slot) (hl : lv_has ls 5 [(0, .ref (ad 0)), (2, .int x2), (3, .int x3), (4, .int x4)]), W p l e (headSpec wl_MD_bears ({ frames := 3, cells := 0, slots := 0, locals := 73 } : Room)).room s m (([.ref (ad 0), .int a1, .int a2] : List Value).toArray) below meth c s.heap [] 0 0 (MQ below (vp_Si (fun r => r = out)) (([.ref (ad 0), .int a1, .int a2] : List Value).toArray) s 0 0 (fun _ => False)) (F0 m 5 ls []) := by
    intro n5
    induction n5 with
    | zero =>
      intro x2 x3 x4 h
      exact absurd h (by intro z; cases z)
    | succ n5 ih5 =>
      intro x2 x3 x4 h ls hl
      replace h : B_MD_bears_5 σ (L_MD_bears_5 σ n5) x2 x3 x4 = some out := h
      unfold B_MD_bears_5 at h
      refine lv_iload hx hb d_MD_bears_5 (lv_at hl 3 rfl) ?_
      refine lv_iconst (v := (-1)) hx hb d_MD_bears_7 (by decide) ?_
      refine lv_icmp_eq (tgt := 50) hx hb d_MD_bears_8 (by decide) (fun c1 => ?_) (fun c1 => ?_)
      · rw [if_pos c1] at h
        refine lv_iload_n hx hb d_MD_bears_50 rfl (lv_at hl 2 rfl) ?_
        obtain ⟨hin, h⟩ := gd_some h
        exact W.zret hx hb hr (isB_nar hin) (fun t ht _ => ⟨_, rfl, Option.some.inj h, ht⟩) (fun _ hq => nomatch hq) d_MD_bears_51
      · rw [if_neg c1] at h
        refine lv_iload_n hx hb d_MD_bears_11 rfl (lv_at hl 2 rfl) ?_
        refine lv_if_eq (tgt := 36) hx hb d_MD_bears_12 (by decide) (fun c2 => ?_) (fun c2 => ?_)
        · rw [if_pos c2] at h
          refine lv_iconst (v := 0) hx hb d_MD_bears_36 (by decide) ?_
          refine lv_istore_n (lv' := [(3, .int 0), (0, .ref (ad 0)), (2, .int x2), (4, .int x4)]) hx hb d_MD_bears_37 rfl hl (by decide) rfl (fun ls hl => ?_)
          refine lv_aload_n hx hb d_MD_bears_38 rfl (lv_at hl 1 rfl) ?_
          refine gf_MD_7 C hP d_MD_bears_39 ?_
          refine lv_iload hx hb d_MD_bears_42 (lv_at hl 3 rfl) ?_
          obtain ⟨hin, h⟩ := gd_some h
          refine alR_1 C hP hin d_MD_bears_44 ?_
          obtain ⟨y7, e_y7, h⟩ := lt1_some h
          refine W.eq (g2 := F0 m 45 ls (.int y7 :: [])) (by rw [e_y7]) ?_
          refine lv_istore (lv' := [(4, .int y7), (3, .int 0), (0, .ref (ad 0)), (2, .int x2)]) hx hb d_MD_bears_45 hl (by decide) rfl (fun ls hl => ?_)
          refine lv_goto (tgt := 5) hx hb d_MD_bears_47 (by decide) ?_
          exact ih5 x2 0 y7 h _ (lv_sub hl [2, 3, 1, 0] rfl)
        · rw [if_neg c2] at h
          refine lv_aload_n hx hb d_MD_bears_15 rfl (lv_at hl 0 rfl) ?_
          refine lv_iload hx hb d_MD_bears_16 (lv_at hl 3 rfl) ?_
          refine lv_iload_n hx hb d_MD_bears_18 rfl (lv_at hl 1 rfl) ?_
          obtain ⟨r3, g_r3, h⟩ := ob_some h
          refine cl_MD_136 (rest := []) C (hml.trans hl.1.symm) hP g_r3 ⟨Nat.le_of_ble_eq_true rfl, Nat.le_of_ble_eq_true rfl⟩ (Nat.le_of_ble_eq_true rfl) d_MD_bears_19 ⟨Nat.zero_le _, Nat.zero_le _⟩ ?_
          refine lv_aload_n hx hb d_MD_bears_22 rfl (lv_at hl 0 rfl) ?_
          refine gf_MD_13 C hP d_MD_bears_23 ?_
          refine lv_iload hx hb d_MD_bears_26 (lv_at hl 3 rfl) ?_
          obtain ⟨hin, h⟩ := gd_some h
          refine alR_2 C hP hin d_MD_bears_28 ?_
          refine lv_icmp_gt (tgt := 36) hx hb d_MD_bears_29 (by decide) (fun c4 => ?_) (fun c4 => ?_)
          · rw [if_pos c4] at h
            refine lv_iconst (v := 0) hx hb d_MD_bears_36 (by decide) ?_
            refine lv_istore_n (lv' := [(3, .int 0), (0, .ref (ad 0)), (2, .int x2), (4, .int x4)]) hx hb d_MD_bears_37 rfl hl (by decide) rfl (fun ls hl => ?_)
            refine lv_aload_n hx hb d_MD_bears_38 rfl (lv_at hl 1 rfl) ?_
            refine gf_MD_7 C hP d_MD_bears_39 ?_
            refine lv_iload hx hb d_MD_bears_42 (lv_at hl 3 rfl) ?_
            obtain ⟨hin, h⟩ := gd_some h
            refine alR_1 C hP hin d_MD_bears_44 ?_
            obtain ⟨y6, e_y6, h⟩ := lt1_some h
            refine W.eq (g2 := F0 m 45 ls (.int y6 :: [])) (by rw [e_y6]) ?_
            refine lv_istore (lv' := [(4, .int y6), (3, .int 0), (0, .ref (ad 0)), (2, .int x2)]) hx hb d_MD_bears_45 hl (by decide) rfl (fun ls hl => ?_)
            refine lv_goto (tgt := 5) hx hb d_MD_bears_47 (by decide) ?_
            exact ih5 x2 0 y6 h _ (lv_sub hl [2, 3, 1, 0] rfl)
          · rw [if_neg c4] at h
            refine lv_iconst (v := 1) hx hb d_MD_bears_32 (by decide) ?_
            refine lv_goto (tgt := 37) hx hb d_MD_bears_33 (by decide) ?_
            refine lv_istore_n (lv' := [(3, .int 1), (0, .ref (ad 0)), (2, .int x2), (4, .int x4)]) hx hb d_MD_bears_37 rfl hl (by decide) rfl (fun ls hl => ?_)
            refine lv_aload_n hx hb d_MD_bears_38 rfl (lv_at hl 1 rfl) ?_
            refine gf_MD_7 C hP d_MD_bears_39 ?_
            refine lv_iload hx hb d_MD_bears_42 (lv_at hl 3 rfl) ?_
            obtain ⟨hin, h⟩ := gd_some h
            refine alR_1 C hP hin d_MD_bears_44 ?_
            obtain ⟨y5, e_y5, h⟩ := lt1_some h
            refine W.eq (g2 := F0 m 45 ls (.int y5 :: [])) (by rw [e_y5]) ?_
            refine lv_istore (lv' := [(4, .int y5), (3, .int 1), (0, .ref (ad 0)), (2, .int x2)]) hx hb d_MD_bears_45 hl (by decide) rfl (fun ls hl => ?_)
            refine lv_goto (tgt := 5) hx hb d_MD_bears_47 (by decide) ?_
            exact ih5 x2 1 y5 h _ (lv_sub hl [2, 3, 1, 0] rfl)
  exact k5 _ a2 1 a1 h _ (lv_sub hl [2, 4, 1, 0] rfl)
section RC
variable {p : Program} {l : Launch} {e : Env} {R : Room} {s : State} {m : MethodId} {args : Array Value} {below : List Frame} {meth : Method} {c : Code} {H : Heap} {locs : List Loc} {cells slots : Nat} {Q : State → Prop}
variable {cc : ByteArray} {pc : Nat} {ls : Array Slot} {rest : List Value} {G : va_G} {ad : Nat → Nat} {cI cZ : ClassId} {σ : Sg} {own : String}
theorem cl_MD_139 (C : CX "PlaceMovesModel" cc p s m args c G cI cZ) (hml : c.maxLocals = ls.size) (hP : va_P G clX (wR ad cI cZ σ) H) {x1 : Int32} {x2 : Int32} {r : Int32} (hg : f_MD_bears σ x1 x2 = some r) (hR : 3 + 1 ≤ R.frames ∧ 8 + (5 + 11) + 73 ≤ R.locals) (hrest : (rest.map fun v => v.category).sum ≤ 8) (hd : decode cc pc = .ok (.invokevirtual 139, 3)) (hcs : cells + 0 ≤ R.cells ∧ slots + 0 ≤ R.slots) (kk : W p l e R s m args below meth c H locs cells slots Q (F0 m (pc + 3) ls (.int r :: rest))) : W p l e R s m args below meth c H locs cells slots Q (F0 m pc ls (.int x2 :: .int x1 :: .ref (ad 0) :: rest)) :=
  vp_callSi (W.runV (As := [.int x1, .int x2]) (rest := rest) ⟨C.1, C.2.1, hml, C.2.2.1, C.2.2.2.1⟩ (c_MD_bears l G ad cI cZ σ x1 x2 r hg) (cwV 2 C.2.2.2.1 (wg_V w_772 w_774 ws_26 w_8 w_775) rfl rfl rfl (by decide +kernel) hR) ⟨PcR.blind, va_recv C.2.2.2.2.1 hP (ci := 7) (q0 := 0) rfl rfl, fun U hU hW => ⟨rfl, by rw [hU]; exact hP, C.2.2.2.2.warm hW⟩⟩ rfl rfl rfl rfl (lv_room hrest) hd hcs) (fun r' e => by subst e; exact kk)
end RC
abbrev wl_MD_mayCome : List Cond := .code ⟨"PlaceMovesModel", "mayCome", "(III)Z"⟩ prog_9_method_20_code 6 (some FieldType.boolean) :: WG
set_option maxHeartbeats 4000000 in
set_option maxRecDepth 100000 in
theorem c_MD_mayCome (l : Launch) (G : va_G) (ad : Nat → Nat) (cI cZ : ClassId) (hD : DR ad) (σ : Sg) (a1 : Int32) (a2 : Int32) (a3 : Int32) (out : Int32 × Sg) (h : f_MD_mayCome σ a1 a2 a3 = some out) : Met l ⟨"PlaceMovesModel", "mayCome", "(III)Z"⟩ wl_MD_mayCome ({ frames := 4, cells := 0, slots := 0, locals := 97 } : Room) (PcR G ad cI cZ σ [.ref (ad 0), .int a1, .int a2, .int a3]) (QRi G ad cI cZ out) 0 0 (AR ad) := by
  refine Met.ofW (cc := prog_9_method_20_code) (maxL := 6) (ret := (some FieldType.boolean)) (by decide) rfl ?_
  intro p e s m args below meth c s₁ B hml hv
  obtain ⟨rfl, hP, hK⟩ := hv
  have hx := B.exec
  have hb := B.bytes
  have hr := B.returns
  have hts0 := atoms_spec (ws := wl_MD_mayCome) B.pre
  have hts : ∀ w ∈ WG, w.before _ s = true := fun w hw => hts0 w (List.mem_cons_of_mem _ hw)
  have hown : s.vm.findClass "PlaceMovesModel" = some m.cls := findClass_of_methodNamed B.named
  have hlocks := B.notSynchronized
  have C : CX "PlaceMovesModel" prog_9_method_20_code p s m _ c G cI cZ := ⟨hx, hb, hown, hts, hK⟩
  have hl := lv_entry ([.ref (ad 0), .int a1, .int a2, .int a3]) (n := 6) (Nat.le_of_ble_eq_true rfl)
  rw [lg_entry_eq]
  generalize (lg_sl ([.ref (ad 0), .int a1, .int a2, .int a3]) ++ List.replicate (6 - (lg_sl ([.ref (ad 0), .int a1, .int a2, .int a3])).length) Slot.unset).toArray = ls at hl ⊢
  have hl : lv_has ls 6 [(0, .ref (ad 0)), (1, .int a1), (2, .int a2), (3, .int a3)] := hl
  unfold f_MD_mayCome at h
  have hW : WR G ad cI cZ s σ s.heap [] := ⟨hP, va_S.rf⟩
  refine lv_aload_n hx hb d_MD_mayCome_0 rfl (lv_at hl 0 rfl) ?_
  refine lv_iload_n hx hb d_MD_mayCome_1 rfl (lv_at hl 1 rfl) ?_
  refine pf_MD_80 C hD hW d_MD_mayCome_2 (fun H locs hW => ?_)
  obtain ⟨σ1, e_σ1, h⟩ := lt1_some h
  rw [← e_σ1] at hW
  refine lv_aload_n hx hb d_MD_mayCome_5 rfl (lv_at hl 0 rfl) ?_
  refine lv_iload_n hx hb d_MD_mayCome_6 rfl (lv_at hl 2 rfl) ?_
  refine pf_MD_116 C hD hW d_MD_mayCome_7 (fun H locs hW => ?_)
  obtain ⟨σ2, e_σ2, h⟩ := lt1_some h
  rw [← e_σ2] at hW
  refine lv_aload_n hx hb d_MD_mayCome_10 rfl (lv_at hl 0 rfl) ?_
  refine lv_iload_n hx hb d_MD_mayCome_11 rfl (lv_at hl 2 rfl) ?_
  refine lv_iload_n hx hb d_MD_mayCome_12 rfl (lv_at hl 3 rfl) ?_
  obtain ⟨r3, g_r3, h⟩ := ob_some h
  refine cl_MD_139 (rest := []) C (hml.trans hl.1.symm) hW.1 g_r3 ⟨Nat.le_of_ble_eq_true rfl, Nat.le_of_ble_eq_true rfl⟩ (Nat.le_of_ble_eq_true rfl) d_MD_mayCome_13 ⟨Nat.zero_le _, Nat.zero_le _⟩ ?_
  refine lv_istore (lv' := [(4, .int r3), (0, .ref (ad 0)), (1, .int a1), (2, .int a2), (3, .int a3)]) hx hb d_MD_mayCome_16 hl (by decide) rfl (fun ls hl => ?_)
  refine lv_iconst (v := 0) hx hb d_MD_mayCome_18 (by decide) ?_
  refine lv_istore (lv' := [(5, .int 0), (4, .int r3), (0, .ref (ad 0)), (1, .int a1), (2, .int a2), (3, .int a3)]) hx hb d_MD_mayCome_19 hl (by decide) rfl (fun ls hl => ?_)
  have k21 : ∀ (n21 : Nat) (x2 : Int32) (x3 : Int32) (x4 : Int32) (x5 : Int32) (σ : Sg) (h : L_MD_mayCome_21 n21 x2 x3 x4 x5 σ = some out) (H : Heap) (locs : List Loc) (hW : WR G ad cI cZ s σ H locs) (ls : Array Slot) (hl : lv_has ls 6 [(0, .ref (ad 0)), (2, .int x2), (3, .int x3), (4, .int x4), (5, .int x5)]), W p l e (headSpec wl_MD_mayCome ({ frames := 4, cells := 0, slots := 0, locals := 97 } : Room)).room s m (([.ref (ad 0), .int a1, .int a2, .int a3] : List Value).toArray) below meth c H locs 0 0 (MQ below (QRi G ad cI cZ out) (([.ref (ad 0), .int a1, .int a2, .int a3] : List Value).toArray) s 0 0 (AR ad)) (F0 m 21 ls []) := by
    intro n21
    induction n21 with
    | zero =>
      intro x2 x3 x4 x5 σ h
      exact absurd h (by intro z; cases z)
    | succ n21 ih21 =>
      intro x2 x3 x4 x5 σ h H locs hW ls hl
      replace h : B_MD_mayCome_21 (L_MD_mayCome_21 n21) x2 x3 x4 x5 σ = some out := h
      unfold B_MD_mayCome_21 at h
      refine lv_iload hx hb d_MD_mayCome_21 (lv_at hl 4 rfl) ?_
      refine lv_aload_n hx hb d_MD_mayCome_23 rfl (lv_at hl 0 rfl) ?_
      refine gf_MD_123 C hW.1 d_MD_mayCome_24 ?_
      refine lv_icmp_ge (tgt := 74) hx hb d_MD_mayCome_27 (by decide) (fun c4 => ?_) (fun c4 => ?_)
      · rw [if_pos c4] at h
        refine lv_aload_n hx hb d_MD_mayCome_74 rfl (lv_at hl 0 rfl) ?_
        refine lv_iconst (v := (-1)) hx hb d_MD_mayCome_75 (by decide) ?_
        refine pf_MD_80 C hD hW d_MD_mayCome_76 (fun H locs hW => ?_)
        obtain ⟨σ9, e_σ9, h⟩ := lt1_some h
        rw [← e_σ9] at hW
        refine lv_iload hx hb d_MD_mayCome_79 (lv_at hl 3 rfl) ?_
        obtain ⟨hin, h⟩ := gd_some h
        exact W.zret hx hb hr (isB_nar hin) (fun t ht _ => qr_i h ht hW) hW.2.2.2 d_MD_mayCome_81
      · rw [if_neg c4] at h
        refine lv_iload hx hb d_MD_mayCome_30 (lv_at hl 3 rfl) ?_
        refine lv_if_eq (tgt := 65) hx hb d_MD_mayCome_32 (by decide) (fun c5 => ?_) (fun c5 => ?_)
        · rw [if_pos c5] at h
          refine lv_iconst (v := 0) hx hb d_MD_mayCome_65 (by decide) ?_
          refine lv_istore (lv' := [(4, .int 0), (0, .ref (ad 0)), (2, .int x2), (3, .int x3), (5, .int x5)]) hx hb d_MD_mayCome_66 hl (by decide) rfl (fun ls hl => ?_)
          refine lv_iinc (v := x5 + 1) (lv' := [(5, .int (x5 + 1)), (4, .int 0), (0, .ref (ad 0)), (2, .int x2), (3, .int x3)]) hx hb d_MD_mayCome_68 hl (k := 4) rfl rfl (by decide) rfl (fun ls hl => ?_)
          refine lv_goto (tgt := 21) hx hb d_MD_mayCome_71 (by decide) ?_
          exact ih21 x2 x3 0 (x5 + 1) σ h _ _ hW _ (lv_sub hl [2, 3, 4, 1, 0] rfl)
        · rw [if_neg c5] at h
          refine lv_aload_n hx hb d_MD_mayCome_35 rfl (lv_at hl 0 rfl) ?_
          refine gf_MD_65 C hW.1 d_MD_mayCome_36 ?_
          refine lv_iload hx hb d_MD_mayCome_39 (lv_at hl 4 rfl) ?_
          obtain ⟨hin, h⟩ := gd_some h
          refine alR_19 C hW.1 hin d_MD_mayCome_41 ?_
          refine lv_iload_n hx hb d_MD_mayCome_42 rfl (lv_at hl 2 rfl) ?_
          refine lv_icmp_le (tgt := 61) hx hb d_MD_mayCome_43 (by decide) (fun c6 => ?_) (fun c6 => ?_)
          · rw [if_pos c6] at h
            refine lv_iconst (v := 1) hx hb d_MD_mayCome_61 (by decide) ?_
            refine lv_goto (tgt := 66) hx hb d_MD_mayCome_62 (by decide) ?_
            refine lv_istore (lv' := [(4, .int 1), (0, .ref (ad 0)), (2, .int x2), (3, .int x3), (5, .int x5)]) hx hb d_MD_mayCome_66 hl (by decide) rfl (fun ls hl => ?_)
            refine lv_iinc (v := x5 + 1) (lv' := [(5, .int (x5 + 1)), (4, .int 1), (0, .ref (ad 0)), (2, .int x2), (3, .int x3)]) hx hb d_MD_mayCome_68 hl (k := 4) rfl rfl (by decide) rfl (fun ls hl => ?_)
            refine lv_goto (tgt := 21) hx hb d_MD_mayCome_71 (by decide) ?_
            exact ih21 x2 x3 1 (x5 + 1) σ h _ _ hW _ (lv_sub hl [2, 3, 4, 1, 0] rfl)
          · rw [if_neg c6] at h
            refine lv_aload_n hx hb d_MD_mayCome_46 rfl (lv_at hl 0 rfl) ?_
            refine lv_iload_n hx hb d_MD_mayCome_47 rfl (lv_at hl 1 rfl) ?_
            refine lv_aload_n hx hb d_MD_mayCome_48 rfl (lv_at hl 0 rfl) ?_
            refine gf_MD_65 C hW.1 d_MD_mayCome_49 ?_
            refine lv_iload hx hb d_MD_mayCome_52 (lv_at hl 4 rfl) ?_
            obtain ⟨hin, h⟩ := gd_some h
            refine alR_19 C hW.1 hin d_MD_mayCome_54 ?_
            obtain ⟨r7, g_r7, h⟩ := ob_some h
            refine cl_MD_139 (rest := []) C (hml.trans hl.1.symm) hW.1 g_r7 ⟨Nat.le_of_ble_eq_true rfl, Nat.le_of_ble_eq_true rfl⟩ (Nat.le_of_ble_eq_true rfl) d_MD_mayCome_55 ⟨Nat.zero_le _, Nat.zero_le _⟩ ?_
            refine lv_if_eq (tgt := 65) hx hb d_MD_mayCome_58 (by decide) (fun c8 => ?_) (fun c8 => ?_)
            · rw [if_pos c8] at h
              refine lv_iconst (v := 0) hx hb d_MD_mayCome_65 (by decide) ?_
              refine lv_istore (lv' := [(4, .int 0), (0, .ref (ad 0)), (2, .int x2), (3, .int x3), (5, .int x5)]) hx hb d_MD_mayCome_66 hl (by decide) rfl (fun ls hl => ?_)
              refine lv_iinc (v := x5 + 1) (lv' := [(5, .int (x5 + 1)), (4, .int 0), (0, .ref (ad 0)), (2, .int x2), (3, .int x3)]) hx hb d_MD_mayCome_68 hl (k := 4) rfl rfl (by decide) rfl (fun ls hl => ?_)
              refine lv_goto (tgt := 21) hx hb d_MD_mayCome_71 (by decide) ?_
              exact ih21 x2 x3 0 (x5 + 1) σ h _ _ hW _ (lv_sub hl [2, 3, 4, 1, 0] rfl)
            · rw [if_neg c8] at h
              refine lv_iconst (v := 1) hx hb d_MD_mayCome_61 (by decide) ?_
              refine lv_goto (tgt := 66) hx hb d_MD_mayCome_62 (by decide) ?_
              refine lv_istore (lv' := [(4, .int 1), (0, .ref (ad 0)), (2, .int x2), (3, .int x3), (5, .int x5)]) hx hb d_MD_mayCome_66 hl (by decide) rfl (fun ls hl => ?_)
              refine lv_iinc (v := x5 + 1) (lv' := [(5, .int (x5 + 1)), (4, .int 1), (0, .ref (ad 0)), (2, .int x2), (3, .int x3)]) hx hb d_MD_mayCome_68 hl (k := 4) rfl rfl (by decide) rfl (fun ls hl => ?_)
              refine lv_goto (tgt := 21) hx hb d_MD_mayCome_71 (by decide) ?_
              exact ih21 x2 x3 1 (x5 + 1) σ h _ _ hW _ (lv_sub hl [2, 3, 4, 1, 0] rfl)
  exact k21 _ a2 a3 r3 0 σ2 h _ _ hW _ (lv_sub hl [2, 4, 5, 1, 0] rfl)
section RC
variable {p : Program} {l : Launch} {e : Env} {R : Room} {s : State} {m : MethodId} {args : Array Value} {below : List Frame} {meth : Method} {c : Code} {H : Heap} {locs : List Loc} {cells slots : Nat} {Q : State → Prop}
variable {cc : ByteArray} {pc : Nat} {ls : Array Slot} {rest : List Value} {G : va_G} {ad : Nat → Nat} {cI cZ : ClassId} {σ : Sg} {own : String}
theorem cl_MD_154 (C : CX "PlaceMovesModel" cc p s m args c G cI cZ) (hD : DR ad) (hml : c.maxLocals = ls.size) (hW : WR G ad cI cZ s σ H locs) {x1 : Int32} {x2 : Int32} {x3 : Int32} {r : Int32 × Sg} (hg : f_MD_mayCome σ x1 x2 x3 = some r) (hR : 4 + 1 ≤ R.frames ∧ 8 + (6 + 11) + 97 ≤ R.locals) (hrest : (rest.map fun v => v.category).sum ≤ 8) (hd : decode cc pc = .ok (.invokevirtual 154, 3)) (hcs : cells + 0 ≤ R.cells ∧ slots + 0 ≤ R.slots) (kk : ∀ (H1 : Heap) (locs1 : List Loc), WR G ad cI cZ s (r.2) H1 locs1 → W p l e R s m args below meth c H1 locs1 cells slots Q (F0 m (pc + 3) ls (.int r.1 :: rest))) : W p l e R s m args below meth c H locs cells slots Q (F0 m pc ls (.int x3 :: .int x2 :: .int x1 :: .ref (ad 0) :: rest)) :=
  va_calli (va_runV (As := [.int x1, .int x2, .int x3]) (rest := rest) ⟨C.1, C.2.1, hml, C.2.2.1, C.2.2.2.1⟩ (c_MD_mayCome l G ad cI cZ hD σ x1 x2 x3 r hg) (cwV 3 C.2.2.2.1 (wg_V w_768 w_770 ws_25 w_8 w_771) rfl rfl rfl (by decide +kernel) hR) ⟨PcR.blind, va_recv C.2.2.2.2.1 hW.1 (ci := 7) (q0 := 0) rfl rfl, fun U hU hZ => ⟨rfl, by rw [hU]; exact hW.1, C.2.2.2.2.warm hZ⟩⟩ rfl rfl rfl rfl (lv_room hrest) hd hcs) hW.2 (fun _ _ z => z) (fun _ z => z) (fun r' u t H1 locs1 ht _ hp hB _ _ hS => by subst hp; exact kk H1 locs1 ⟨by rw [← ht]; exact hB, hS⟩)
end RC
abbrev wl_MD_barred : List Cond := .code ⟨"PlaceMovesModel", "barred", "(III)Z"⟩ prog_9_method_21_code 5 (some FieldType.boolean) :: WG
set_option maxHeartbeats 4000000 in
set_option maxRecDepth 100000 in
theorem c_MD_barred (l : Launch) (G : va_G) (ad : Nat → Nat) (cI cZ : ClassId) (σ : Sg) (a1 : Int32) (a2 : Int32) (a3 : Int32) (out : Int32) (h : f_MD_barred σ a1 a2 a3 = some out) : Met l ⟨"PlaceMovesModel", "barred", "(III)Z"⟩ wl_MD_barred ({ frames := 1, cells := 0, slots := 0, locals := 23 } : Room) (PcR G ad cI cZ σ [.ref (ad 0), .int a1, .int a2, .int a3]) (vp_Si (fun r => r = out)) 0 0 (fun _ => False) := by
  refine Met.ofW (cc := prog_9_method_21_code) (maxL := 5) (ret := (some FieldType.boolean)) (by decide) rfl ?_
  intro p e s m args below meth c s₁ B hml hv
  obtain ⟨rfl, hP, hK⟩ := hv
  have hx := B.exec
  have hb := B.bytes
  have hr := B.returns
  have hts0 := atoms_spec (ws := wl_MD_barred) B.pre
  have hts : ∀ w ∈ WG, w.before _ s = true := fun w hw => hts0 w (List.mem_cons_of_mem _ hw)
  have hown : s.vm.findClass "PlaceMovesModel" = some m.cls := findClass_of_methodNamed B.named
  have hlocks := B.notSynchronized
  have C : CX "PlaceMovesModel" prog_9_method_21_code p s m _ c G cI cZ := ⟨hx, hb, hown, hts, hK⟩
  have hl := lv_entry ([.ref (ad 0), .int a1, .int a2, .int a3]) (n := 5) (Nat.le_of_ble_eq_true rfl)
  rw [lg_entry_eq]
  generalize (lg_sl ([.ref (ad 0), .int a1, .int a2, .int a3]) ++ List.replicate (5 - (lg_sl ([.ref (ad 0), .int a1, .int a2, .int a3])).length) Slot.unset).toArray = ls at hl ⊢
  have hl : lv_has ls 5 [(0, .ref (ad 0)), (1, .int a1), (2, .int a2), (3, .int a3)] := hl
  unfold f_MD_barred at h
  refine lv_iconst (v := 0) hx hb d_MD_barred_0 (by decide) ?_
  refine lv_istore (lv' := [(4, .int 0), (0, .ref (ad 0)), (1, .int a1), (2, .int a2), (3, .int a3)]) hx hb d_MD_barred_1 hl (by decide) rfl (fun ls hl => ?_)
  have k3 : ∀ (n3 : Nat) (x1 : Int32) (x2 : Int32) (x3 : Int32) (x4 : Int32) (h : L_MD_barred_3 σ n3 x1 x2 x3 x4 = some out) (ls : Array Slot) (hl : lv_has ls 5 [(0, .ref (ad 0)), (1, .int x1), (2, .int x2), (3, .int x3), (4, .int x4)]), W p l e (headSpec wl_MD_barred ({ frames := 1, cells := 0, slots := 0, locals := 23 } : Room)).room s m (([.ref (ad 0), .int a1, .int a2, .int a3] : List Value).toArray) below meth c s.heap [] 0 0 (MQ below (vp_Si (fun r => r = out)) (([.ref (ad 0), .int a1, .int a2, .int a3] : List Value).toArray) s 0 0 (fun _ => False)) (F0 m 3 ls []) := by
    intro n3
    induction n3 with
    | zero =>
      intro x1 x2 x3 x4 h
      exact absurd h (by intro z; cases z)
    | succ n3 ih3 =>
      intro x1 x2 x3 x4 h ls hl
      replace h : B_MD_barred_3 σ (L_MD_barred_3 σ n3) x1 x2 x3 x4 = some out := h
      unfold B_MD_barred_3 at h
      refine lv_iload hx hb d_MD_barred_3 (lv_at hl 4 rfl) ?_
      refine lv_aload_n hx hb d_MD_barred_5 rfl (lv_at hl 0 rfl) ?_
      refine gf_MD_142 C hP d_MD_barred_6 ?_
      refine lv_icmp_ge (tgt := 68) hx hb d_MD_barred_9 (by decide) (fun c1 => ?_) (fun c1 => ?_)
      · rw [if_pos c1] at h
        refine lv_iconst (v := 0) hx hb d_MD_barred_68 (by decide) ?_
        exact W.zret hx hb hr rfl (fun t ht _ => ⟨_, rfl, Option.some.inj h, ht⟩) (fun _ hq => nomatch hq) d_MD_barred_69
      · rw [if_neg c1] at h
        refine lv_iload_n hx hb d_MD_barred_12 rfl (lv_at hl 3 rfl) ?_
        refine lv_aload_n hx hb d_MD_barred_13 rfl (lv_at hl 0 rfl) ?_
        refine gf_MD_74 C hP d_MD_barred_14 ?_
        refine lv_iload hx hb d_MD_barred_17 (lv_at hl 4 rfl) ?_
        obtain ⟨hin, h⟩ := gd_some h
        refine alR_22 C hP hin d_MD_barred_19 ?_
        refine lv_aload_n hx hb d_MD_barred_20 rfl (lv_at hl 0 rfl) ?_
        refine gf_MD_77 C hP d_MD_barred_21 ?_
        refine lv_iload hx hb d_MD_barred_24 (lv_at hl 4 rfl) ?_
        obtain ⟨hin, h⟩ := gd_some h
        refine alR_23 C hP hin d_MD_barred_26 ?_
        obtain ⟨r2, g_r2, h⟩ := ob_some h
        refine cl_MD_98 (rest := []) C (hml.trans hl.1.symm) hP g_r2 ⟨Nat.le_of_ble_eq_true rfl, Nat.le_of_ble_eq_true rfl⟩ (Nat.le_of_ble_eq_true rfl) d_MD_barred_27 ⟨Nat.zero_le _, Nat.zero_le _⟩ ?_
        refine lv_if_eq (tgt := 62) hx hb d_MD_barred_30 (by decide) (fun c3 => ?_) (fun c3 => ?_)
        · rw [if_pos c3] at h
          refine lv_iinc (v := x4 + 1) (lv' := [(4, .int (x4 + 1)), (0, .ref (ad 0)), (1, .int x1), (2, .int x2), (3, .int x3)]) hx hb d_MD_barred_62 hl (k := 4) rfl rfl (by decide) rfl (fun ls hl => ?_)
          refine lv_goto (tgt := 3) hx hb d_MD_barred_65 (by decide) ?_
          exact ih3 x1 x2 x3 (x4 + 1) h _ (lv_sub hl [1, 2, 3, 4, 0] rfl)
        · rw [if_neg c3] at h
          refine lv_aload_n hx hb d_MD_barred_33 rfl (lv_at hl 0 rfl) ?_
          refine lv_iload_n hx hb d_MD_barred_34 rfl (lv_at hl 1 rfl) ?_
          refine lv_aload_n hx hb d_MD_barred_35 rfl (lv_at hl 0 rfl) ?_
          refine gf_MD_71 C hP d_MD_barred_36 ?_
          refine lv_iload hx hb d_MD_barred_39 (lv_at hl 4 rfl) ?_
          obtain ⟨hin, h⟩ := gd_some h
          refine alR_21 C hP hin d_MD_barred_41 ?_
          obtain ⟨r4, g_r4, h⟩ := ob_some h
          refine cl_MD_126 (rest := []) C (hml.trans hl.1.symm) hP g_r4 ⟨Nat.le_of_ble_eq_true rfl, Nat.le_of_ble_eq_true rfl⟩ (Nat.le_of_ble_eq_true rfl) d_MD_barred_42 ⟨Nat.zero_le _, Nat.zero_le _⟩ ?_
          refine lv_aload_n hx hb d_MD_barred_45 rfl (lv_at hl 0 rfl) ?_
          refine lv_iload_n hx hb d_MD_barred_46 rfl (lv_at hl 2 rfl) ?_
          refine lv_aload_n hx hb d_MD_barred_47 rfl (lv_at hl 0 rfl) ?_
          refine gf_MD_71 C hP d_MD_barred_48 ?_
          refine lv_iload hx hb d_MD_barred_51 (lv_at hl 4 rfl) ?_
          obtain ⟨hin, h⟩ := gd_some h
          refine alR_21 C hP hin d_MD_barred_53 ?_
          obtain ⟨r5, g_r5, h⟩ := ob_some h
          refine cl_MD_126 (rest := [.int r4]) C (hml.trans hl.1.symm) hP g_r5 ⟨Nat.le_of_ble_eq_true rfl, Nat.le_of_ble_eq_true rfl⟩ (Nat.le_of_ble_eq_true rfl) d_MD_barred_54 ⟨Nat.zero_le _, Nat.zero_le _⟩ ?_
          refine lv_icmp_eq (tgt := 62) hx hb d_MD_barred_57 (by decide) (fun c6 => ?_) (fun c6 => ?_)
          · rw [if_pos c6] at h
            refine lv_iinc (v := x4 + 1) (lv' := [(4, .int (x4 + 1)), (0, .ref (ad 0)), (1, .int x1), (2, .int x2), (3, .int x3)]) hx hb d_MD_barred_62 hl (k := 4) rfl rfl (by decide) rfl (fun ls hl => ?_)
            refine lv_goto (tgt := 3) hx hb d_MD_barred_65 (by decide) ?_
            exact ih3 x1 x2 x3 (x4 + 1) h _ (lv_sub hl [1, 2, 3, 4, 0] rfl)
          · rw [if_neg c6] at h
            refine lv_iconst (v := 1) hx hb d_MD_barred_60 (by decide) ?_
            exact W.zret hx hb hr rfl (fun t ht _ => ⟨_, rfl, Option.some.inj h, ht⟩) (fun _ hq => nomatch hq) d_MD_barred_61
  exact k3 _ a1 a2 a3 0 h _ (lv_sub hl [1, 2, 3, 4, 0] rfl)
section RC
variable {p : Program} {l : Launch} {e : Env} {R : Room} {s : State} {m : MethodId} {args : Array Value} {below : List Frame} {meth : Method} {c : Code} {H : Heap} {locs : List Loc} {cells slots : Nat} {Q : State → Prop}
variable {cc : ByteArray} {pc : Nat} {ls : Array Slot} {rest : List Value} {G : va_G} {ad : Nat → Nat} {cI cZ : ClassId} {σ : Sg} {own : String}
theorem cl_MD_151 (C : CX "PlaceMovesModel" cc p s m args c G cI cZ) (hml : c.maxLocals = ls.size) (hP : va_P G clX (wR ad cI cZ σ) H) {x1 : Int32} {x2 : Int32} {x3 : Int32} {r : Int32} (hg : f_MD_barred σ x1 x2 x3 = some r) (hR : 1 + 1 ≤ R.frames ∧ 8 + (5 + 11) + 23 ≤ R.locals) (hrest : (rest.map fun v => v.category).sum ≤ 8) (hd : decode cc pc = .ok (.invokevirtual 151, 3)) (hcs : cells + 0 ≤ R.cells ∧ slots + 0 ≤ R.slots) (kk : W p l e R s m args below meth c H locs cells slots Q (F0 m (pc + 3) ls (.int r :: rest))) : W p l e R s m args below meth c H locs cells slots Q (F0 m pc ls (.int x3 :: .int x2 :: .int x1 :: .ref (ad 0) :: rest)) :=
  vp_callSi (W.runV (As := [.int x1, .int x2, .int x3]) (rest := rest) ⟨C.1, C.2.1, hml, C.2.2.1, C.2.2.2.1⟩ (c_MD_barred l G ad cI cZ σ x1 x2 x3 r hg) (cwV 3 C.2.2.2.1 (wg_V w_760 w_762 ws_23 w_8 w_763) rfl rfl rfl (by decide +kernel) hR) ⟨PcR.blind, va_recv C.2.2.2.2.1 hP (ci := 7) (q0 := 0) rfl rfl, fun U hU hW => ⟨rfl, by rw [hU]; exact hP, C.2.2.2.2.warm hW⟩⟩ rfl rfl rfl rfl (lv_room hrest) hd hcs) (fun r' e => by subst e; exact kk)
end RC
