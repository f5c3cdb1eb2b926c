abbrev wl_PM_fits : List Cond := .code ⟨"PlaceMoves", "fits", "(II)Z"⟩ prog_1_method_36_code 6 (some FieldType.boolean) :: WG
set_option maxHeartbeats 4000000 in
set_option maxRecDepth 100000 in
theorem c_PM_fits (l : Launch) (G : va_G) (ad : Nat → Nat) (cI cZ : ClassId) (σ : Sg) (a1 : Int32) (a2 : Int32) (out : Int32) (h : f_PM_fits σ a1 a2 = some out) : Met l ⟨"PlaceMoves", "fits", "(II)Z"⟩ wl_PM_fits ({ frames := 2, cells := 0, slots := 0, locals := 56 } : Room) (PcX G ad cI cZ σ [.ref (ad 0), .int a1, .int a2]) (vp_Si (fun r => r = out)) 0 0 (fun _ => False) := by
  refine Met.ofW (cc := prog_1_method_36_code) (maxL := 6) (ret := (some FieldType.boolean)) (by decide) rfl ?_
  intro p e s m args below meth c s₁ B hml hv
  obtain ⟨rfl, hP, hK⟩ := hv
  have hx := B.exec
  have hb := B.bytes
  have hr := B.returns
  have hts0 := atoms_spec (ws := wl_PM_fits) B.pre
  have hts : ∀ w ∈ WG, w.before _ s = true := fun w hw => hts0 w (List.mem_cons_of_mem _ hw)
  have hown : s.vm.findClass "PlaceMoves" = some m.cls := findClass_of_methodNamed B.named
  have hlocks := B.notSynchronized
  have C : CX "PlaceMoves" prog_1_method_36_code p s m _ c G cI cZ := ⟨hx, hb, hown, hts, hK⟩
  have hl := lv_entry ([.ref (ad 0), .int a1, .int a2]) (n := 6) (Nat.le_of_ble_eq_true rfl)
  rw [lg_entry_eq]
  generalize (lg_sl ([.ref (ad 0), .int a1, .int a2]) ++ List.replicate (6 - (lg_sl ([.ref (ad 0), .int a1, .int a2])).length) Slot.unset).toArray = ls at hl ⊢
  have hl : lv_has ls 6 [(0, .ref (ad 0)), (1, .int a1), (2, .int a2)] := hl
  unfold f_PM_fits at h
  refine lv_aload_n hx hb d_PM_fits_0 rfl (lv_at hl 0 rfl) ?_
  refine gf_PM_19 C hP d_PM_fits_1 ?_
  refine gf_PM_242 C hP d_PM_fits_4 ?_
  refine lv_iload_n hx hb d_PM_fits_7 rfl (lv_at hl 1 rfl) ?_
  obtain ⟨hin, h⟩ := gd_some h
  refine al_11 C hP hin d_PM_fits_8 ?_
  obtain ⟨y1, e_y1, h⟩ := lt1_some h
  refine W.eq (g2 := F0 m 9 ls (.int y1 :: [])) (by rw [e_y1]) ?_
  refine lv_istore_n (lv' := [(3, .int y1), (0, .ref (ad 0)), (1, .int a1), (2, .int a2)]) hx hb d_PM_fits_9 rfl hl (by decide) rfl (fun ls hl => ?_)
  refine lv_aload_n hx hb d_PM_fits_10 rfl (lv_at hl 1 rfl) ?_
  refine gf_PM_19 C hP d_PM_fits_11 ?_
  refine gf_PM_245 C hP d_PM_fits_14 ?_
  refine lv_iload_n hx hb d_PM_fits_17 rfl (lv_at hl 2 rfl) ?_
  obtain ⟨hin, h⟩ := gd_some h
  refine al_12 C hP hin d_PM_fits_18 ?_
  obtain ⟨y2, e_y2, h⟩ := lt1_some h
  refine W.eq (g2 := F0 m 19 ls (.int y2 :: [])) (by rw [e_y2]) ?_
  refine lv_istore (lv' := [(4, .int y2), (3, .int y1), (0, .ref (ad 0)), (1, .int a1), (2, .int a2)]) hx hb d_PM_fits_19 hl (by decide) rfl (fun ls hl => ?_)
  refine lv_aload_n hx hb d_PM_fits_21 rfl (lv_at hl 2 rfl) ?_
  refine gf_PM_19 C hP d_PM_fits_22 ?_
  refine gf_PM_248 C hP d_PM_fits_25 ?_
  refine lv_iload_n hx hb d_PM_fits_28 rfl (lv_at hl 3 rfl) ?_
  obtain ⟨hin, h⟩ := gd_some h
  refine al_13 C hP hin d_PM_fits_29 ?_
  obtain ⟨y3, e_y3, h⟩ := lt1_some h
  refine W.eq (g2 := F0 m 30 ls (.int y3 :: [])) (by rw [e_y3]) ?_
  refine lv_istore (lv' := [(5, .int y3), (4, .int y2), (3, .int y1), (0, .ref (ad 0)), (1, .int a1), (2, .int a2)]) hx hb d_PM_fits_30 hl (by decide) rfl (fun ls hl => ?_)
  refine lv_aload_n hx hb d_PM_fits_32 rfl (lv_at hl 3 rfl) ?_
  refine gf_PM_33 C hP d_PM_fits_33 ?_
  refine lv_iload_n hx hb d_PM_fits_36 rfl (lv_at hl 5 rfl) ?_
  refine lv_iload hx hb d_PM_fits_37 (lv_at hl 1 rfl) ?_
  refine lv_iload_n hx hb d_PM_fits_39 rfl (lv_at hl 2 rfl) ?_
  obtain ⟨r4, g_r4, h⟩ := ob_some h
  refine cl_PM_251 (rest := []) C (hml.trans hl.1.symm) hP g_r4 ⟨Nat.le_of_ble_eq_true rfl, Nat.le_of_ble_eq_true rfl⟩ (Nat.le_of_ble_eq_true rfl) d_PM_fits_40 ⟨Nat.zero_le _, Nat.zero_le _⟩ ?_
  refine lv_if_ne (tgt := 75) hx hb d_PM_fits_43 (by decide) (fun c5 => ?_) (fun c5 => ?_)
  · rw [if_neg c5] at h
    refine lv_iconst (v := 1) hx hb d_PM_fits_75 (by decide) ?_
    refine lv_goto (tgt := 80) hx hb d_PM_fits_76 (by decide) ?_
    exact W.zret hx hb hr rfl (fun t ht _ => ⟨_, rfl, Option.some.inj h, ht⟩) (fun _ hq => nomatch hq) d_PM_fits_80
  · rw [if_pos c5] at h
    refine lv_aload_n hx hb d_PM_fits_46 rfl (lv_at hl 3 rfl) ?_
    refine gf_PM_33 C hP d_PM_fits_47 ?_
    refine lv_iload_n hx hb d_PM_fits_50 rfl (lv_at hl 5 rfl) ?_
    refine lv_iload hx hb d_PM_fits_51 (lv_at hl 0 rfl) ?_
    refine lv_iload_n hx hb d_PM_fits_53 rfl (lv_at hl 2 rfl) ?_
    obtain ⟨r6, g_r6, h⟩ := ob_some h
    refine cl_PM_251 (rest := []) C (hml.trans hl.1.symm) hP g_r6 ⟨Nat.le_of_ble_eq_true rfl, Nat.le_of_ble_eq_true rfl⟩ (Nat.le_of_ble_eq_true rfl) d_PM_fits_54 ⟨Nat.zero_le _, Nat.zero_le _⟩ ?_
    refine lv_if_ne (tgt := 75) hx hb d_PM_fits_57 (by decide) (fun c7 => ?_) (fun c7 => ?_)
    · rw [if_neg c7] at h
      refine lv_iconst (v := 1) hx hb d_PM_fits_75 (by decide) ?_
      refine lv_goto (tgt := 80) hx hb d_PM_fits_76 (by decide) ?_
      exact W.zret hx hb hr rfl (fun t ht _ => ⟨_, rfl, Option.some.inj h, ht⟩) (fun _ hq => nomatch hq) d_PM_fits_80
    · rw [if_pos c7] at h
      refine lv_aload_n hx hb d_PM_fits_60 rfl (lv_at hl 3 rfl) ?_
      refine gf_PM_33 C hP d_PM_fits_61 ?_
      refine lv_iload_n hx hb d_PM_fits_64 rfl (lv_at hl 5 rfl) ?_
      refine lv_iload hx hb d_PM_fits_65 (lv_at hl 0 rfl) ?_
      refine lv_iload hx hb d_PM_fits_67 (lv_at hl 1 rfl) ?_
      obtain ⟨r8, g_r8, h⟩ := ob_some h
      refine cl_PM_251 (rest := []) C (hml.trans hl.1.symm) hP g_r8 ⟨Nat.le_of_ble_eq_true rfl, Nat.le_of_ble_eq_true rfl⟩ (Nat.le_of_ble_eq_true rfl) d_PM_fits_69 ⟨Nat.zero_le _, Nat.zero_le _⟩ ?_
      refine lv_if_eq (tgt := 79) hx hb d_PM_fits_72 (by decide) (fun c9 => ?_) (fun c9 => ?_)
      · rw [if_pos c9] at h
        refine lv_iconst (v := 0) hx hb d_PM_fits_79 (by decide) ?_
        exact W.zret hx hb hr rfl (fun t ht _ => ⟨_, rfl, Option.some.inj h, ht⟩) (fun _ hq => nomatch hq) d_PM_fits_80
      · rw [if_neg c9] at h
        refine lv_iconst (v := 1) hx hb d_PM_fits_75 (by decide) ?_
        refine lv_goto (tgt := 80) hx hb d_PM_fits_76 (by decide) ?_
        exact W.zret hx hb hr rfl (fun t ht _ => ⟨_, rfl, Option.some.inj h, ht⟩) (fun _ hq => nomatch hq) d_PM_fits_80
section RC
variable {p : Program} {l : Launch} {e : Env} {R : Room} {s : State} {m : MethodId} {args : Array Value} {below : List Frame} {meth : Method} {c : Code} {H : Heap} {locs : List Loc} {cells slots : Nat} {Q : State → Prop}
variable {cc : ByteArray} {pc : Nat} {ls : Array Slot} {rest : List Value} {G : va_G} {ad : Nat → Nat} {cI cZ : ClassId} {σ : Sg} {own : String}
theorem cl_PM_153 (C : CX "PlaceMoves" cc p s m args c G cI cZ) (hml : c.maxLocals = ls.size) (hP : va_P G clX (wX ad cI cZ σ) H) {x1 : Int32} {x2 : Int32} {r : Int32} (hg : f_PM_fits σ x1 x2 = some r) (hR : 2 + 1 ≤ R.frames ∧ 8 + (6 + 11) + 56 ≤ R.locals) (hrest : (rest.map fun v => v.category).sum ≤ 8) (hd : decode cc pc = .ok (.invokevirtual 153, 3)) (hcs : cells + 0 ≤ R.cells ∧ slots + 0 ≤ R.slots) (kk : W p l e R s m args below meth c H locs cells slots Q (F0 m (pc + 3) ls (.int r :: rest))) : W p l e R s m args below meth c H locs cells slots Q (F0 m pc ls (.int x2 :: .int x1 :: .ref (ad 0) :: rest)) :=
  vp_callSi (W.runV (As := [.int x1, .int x2]) (rest := rest) ⟨C.1, C.2.1, hml, C.2.2.1, C.2.2.2.1⟩ (c_PM_fits l G ad cI cZ σ x1 x2 r hg) (cwV 2 C.2.2.2.1 (wg_V w_521 w_523 ws_14 w_1 w_524) rfl rfl rfl (by decide +kernel) hR) ⟨PcX.blind, va_recv C.2.2.2.2.1 hP (ci := 0) (q0 := 0) rfl rfl, fun U hU hW => ⟨rfl, by rw [hU]; exact hP, C.2.2.2.2.warm hW⟩⟩ rfl rfl rfl rfl (lv_room hrest) hd hcs) (fun r' e => by subst e; exact kk)
end RC
abbrev wl_PM_fittingDoors : List Cond := .code ⟨"PlaceMoves", "fittingDoors", "(I)J"⟩ prog_1_method_37_code 5 (some FieldType.long) :: WG
set_option maxHeartbeats 4000000 in
set_option maxRecDepth 100000 in
theorem c_PM_fittingDoors (l : Launch) (G : va_G) (ad : Nat → Nat) (cI cZ : ClassId) (σ : Sg) (a1 : Int32) (out : Int64) (h : f_PM_fittingDoors σ a1 = some out) : Met l ⟨"PlaceMoves", "fittingDoors", "(I)J"⟩ wl_PM_fittingDoors ({ frames := 3, cells := 0, slots := 0, locals := 81 } : Room) (PcX G ad cI cZ σ [.ref (ad 0), .int a1]) (vp_Sl (fun r => r = out)) 0 0 (fun _ => False) := by
  refine Met.ofW (cc := prog_1_method_37_code) (maxL := 5) (ret := (some FieldType.long)) (by decide) rfl ?_
  intro p e s m args below meth c s₁ B hml hv
  obtain ⟨rfl, hP, hK⟩ := hv
  have hx := B.exec
  have hb := B.bytes
  have hr := B.returns
  have hts0 := atoms_spec (ws := wl_PM_fittingDoors) B.pre
  have hts : ∀ w ∈ WG, w.before _ s = true := fun w hw => hts0 w (List.mem_cons_of_mem _ hw)
  have hown : s.vm.findClass "PlaceMoves" = some m.cls := findClass_of_methodNamed B.named
  have hlocks := B.notSynchronized
  have C : CX "PlaceMoves" prog_1_method_37_code p s m _ c G cI cZ := ⟨hx, hb, hown, hts, hK⟩
  have hl := lv_entry ([.ref (ad 0), .int a1]) (n := 5) (Nat.le_of_ble_eq_true rfl)
  rw [lg_entry_eq]
  generalize (lg_sl ([.ref (ad 0), .int a1]) ++ List.replicate (5 - (lg_sl ([.ref (ad 0), .int a1])).length) Slot.unset).toArray = ls at hl ⊢
  have hl : lv_has ls 5 [(0, .ref (ad 0)), (1, .int a1)] := hl
  unfold f_PM_fittingDoors at h
  refine lv_lconst (v := 0) hx hb d_PM_fittingDoors_0 (by decide) ?_
  refine lv_lstore_n (lv' := [(2, .long 0), (0, .ref (ad 0)), (1, .int a1)]) hx hb d_PM_fittingDoors_1 rfl hl (by decide) rfl (fun ls hl => ?_)
  refine lv_iconst (v := 0) hx hb d_PM_fittingDoors_2 (by decide) ?_
  refine lv_istore (lv' := [(4, .int 0), (2, .long 0), (0, .ref (ad 0)), (1, .int a1)]) hx hb d_PM_fittingDoors_3 hl (by decide) rfl (fun ls hl => ?_)
  have k5 : ∀ (n5 : Nat) (x1 : Int32) (x2 : Int64) (x4 : Int32) (h : L_PM_fittingDoors_5 σ n5 x1 x2 x4 = some out) (ls : Array Slot) (hl : lv_has ls 5 [(0, .ref (ad 0)), (1, .int x1), (2, .long x2), (4, .int x4)]), W p l e (headSpec wl_PM_fittingDoors ({ frames := 3, cells := 0, slots := 0, locals := 81 } : Room)).room s m (([.ref (ad 0), .int a1] : List Value).toArray) below meth c s.heap [] 0 0 (MQ below (vp_Sl (fun r => r = out)) (([.ref (ad 0), .int a1] : List Value).toArray) s 0 0 (fun _ => False)) (F0 m 5 ls []) := by
    intro n5
    induction n5 with
    | zero =>
      intro x1 x2 x4 h
      exact absurd h (by intro z; cases z)
    | succ n5 ih5 =>
      intro x1 x2 x4 h ls hl
      replace h : B_PM_fittingDoors_5 σ (L_PM_fittingDoors_5 σ n5) x1 x2 x4 = some out := h
      unfold B_PM_fittingDoors_5 at h
      refine lv_iload hx hb d_PM_fittingDoors_5 (lv_at hl 3 rfl) ?_
      refine lv_aload_n hx hb d_PM_fittingDoors_7 rfl (lv_at hl 0 rfl) ?_
      refine gf_PM_33 C hP d_PM_fittingDoors_8 ?_
      refine gf_PM_151 C hP d_PM_fittingDoors_11 ?_
      refine lv_icmp_ge (tgt := 40) hx hb d_PM_fittingDoors_14 (by decide) (fun c1 => ?_) (fun c1 => ?_)
      · rw [if_pos c1] at h
        refine lv_lload_n hx hb d_PM_fittingDoors_40 rfl (lv_at hl 2 rfl) ?_
        exact W.lret hx hb hr (fun t ht _ => ⟨_, rfl, Option.some.inj h, ht⟩) (fun _ hq => nomatch hq) d_PM_fittingDoors_41
      · rw [if_neg c1] at h
        refine lv_aload_n hx hb d_PM_fittingDoors_17 rfl (lv_at hl 0 rfl) ?_
        refine lv_iload_n hx hb d_PM_fittingDoors_18 rfl (lv_at hl 1 rfl) ?_
        refine lv_iload hx hb d_PM_fittingDoors_19 (lv_at hl 3 rfl) ?_
        obtain ⟨r2, g_r2, h⟩ := ob_some h
        refine cl_PM_153 (rest := []) C (hml.trans hl.1.symm) hP g_r2 ⟨Nat.le_of_ble_eq_true rfl, Nat.le_of_ble_eq_true rfl⟩ (Nat.le_of_ble_eq_true rfl) d_PM_fittingDoors_21 ⟨Nat.zero_le _, Nat.zero_le _⟩ ?_
        refine lv_if_eq (tgt := 34) hx hb d_PM_fittingDoors_24 (by decide) (fun c3 => ?_) (fun c3 => ?_)
        · rw [if_pos c3] at h
          refine lv_iinc (v := x4 + 1) (lv' := [(4, .int (x4 + 1)), (0, .ref (ad 0)), (1, .int x1), (2, .long x2)]) hx hb d_PM_fittingDoors_34 hl (k := 3) rfl rfl (by decide) rfl (fun ls hl => ?_)
          refine lv_goto (tgt := 5) hx hb d_PM_fittingDoors_37 (by decide) ?_
          exact ih5 x1 x2 (x4 + 1) h _ (lv_sub hl [1, 2, 3, 0] rfl)
        · rw [if_neg c3] at h
          refine lv_lload_n hx hb d_PM_fittingDoors_27 rfl (lv_at hl 2 rfl) ?_
          refine lv_lconst (v := 1) hx hb d_PM_fittingDoors_28 (by decide) ?_
          refine lv_iload hx hb d_PM_fittingDoors_29 (lv_at hl 3 rfl) ?_
          refine lv_lshl (v := 1 <<< (Int32.toInt64 x4 &&& 63)) hx hb d_PM_fittingDoors_31 rfl ?_
          refine lv_lor hx hb d_PM_fittingDoors_32 ?_
          obtain ⟨y4, e_y4, h⟩ := lt1_some h
          refine W.eq (g2 := F0 m 33 ls (.long y4 :: [])) (by rw [e_y4]) ?_
          refine lv_lstore_n (lv' := [(2, .long y4), (0, .ref (ad 0)), (1, .int x1), (4, .int x4)]) hx hb d_PM_fittingDoors_33 rfl hl (by decide) rfl (fun ls hl => ?_)
          refine lv_iinc (v := x4 + 1) (lv' := [(4, .int (x4 + 1)), (2, .long y4), (0, .ref (ad 0)), (1, .int x1)]) hx hb d_PM_fittingDoors_34 hl (k := 3) rfl rfl (by decide) rfl (fun ls hl => ?_)
          refine lv_goto (tgt := 5) hx hb d_PM_fittingDoors_37 (by decide) ?_
          exact ih5 x1 y4 (x4 + 1) h _ (lv_sub hl [2, 3, 1, 0] rfl)
  exact k5 _ a1 0 0 h _ (lv_sub hl [2, 3, 1, 0] rfl)
section RC
variable {p : Program} {l : Launch} {e : Env} {R : Room} {s : State} {m : MethodId} {args : Array Value} {below : List Frame} {meth : Method} {c : Code} {H : Heap} {locs : List Loc} {cells slots : Nat} {Q : State → Prop}
variable {cc : ByteArray} {pc : Nat} {ls : Array Slot} {rest : List Value} {G : va_G} {ad : Nat → Nat} {cI cZ : ClassId} {σ : Sg} {own : String}
theorem cl_PM_156 (C : CX "PlaceMoves" cc p s m args c G cI cZ) (hml : c.maxLocals = ls.size) (hP : va_P G clX (wX ad cI cZ σ) H) {x1 : Int32} {r : Int64} (hg : f_PM_fittingDoors σ x1 = some r) (hR : 3 + 1 ≤ R.frames ∧ 8 + (5 + 11) + 81 ≤ R.locals) (hrest : (rest.map fun v => v.category).sum ≤ 8) (hd : decode cc pc = .ok (.invokevirtual 156, 3)) (hcs : cells + 0 ≤ R.cells ∧ slots + 0 ≤ R.slots) (kk : W p l e R s m args below meth c H locs cells slots Q (F0 m (pc + 3) ls (.long r :: rest))) : W p l e R s m args below meth c H locs cells slots Q (F0 m pc ls (.int x1 :: .ref (ad 0) :: rest)) :=
  vp_callSl (W.runV (As := [.int x1]) (rest := rest) ⟨C.1, C.2.1, hml, C.2.2.1, C.2.2.2.1⟩ (c_PM_fittingDoors l G ad cI cZ σ x1 r hg) (cwV 1 C.2.2.2.1 (wg_V w_540 w_542 ws_15 w_1 w_543) rfl rfl rfl (by decide +kernel) hR) ⟨PcX.blind, va_recv C.2.2.2.2.1 hP (ci := 0) (q0 := 0) rfl rfl, fun U hU hW => ⟨rfl, by rw [hU]; exact hP, C.2.2.2.2.warm hW⟩⟩ rfl rfl rfl rfl (lv_room hrest) hd hcs) (fun r' e => by subst e; exact kk)
end RC
abbrev wl_Doors_spread : List Cond := .code ⟨"PlaceMoves$Doors", "spread", "(IJ)I"⟩ prog_2_method_5_code 7 (some FieldType.int) :: WG
set_option maxHeartbeats 4000000 in
set_option maxRecDepth 100000 in
theorem c_Doors_spread (l : Launch) (G : va_G) (ad : Nat → Nat) (cI cZ : ClassId) (σ : Sg) (a1 : Int32) (a2 : Int64) (out : Int32) (h : f_Doors_spread σ a1 a2 = some out) : Met l ⟨"PlaceMoves$Doors", "spread", "(IJ)I"⟩ wl_Doors_spread ({ frames := 0, cells := 0, slots := 0, locals := 0 } : Room) (PcX G ad cI cZ σ [.ref (ad 4), .int a1, .long a2]) (vp_Si (fun r => r = out)) 0 0 (fun _ => False) := by
  refine Met.ofW (cc := prog_2_method_5_code) (maxL := 7) (ret := (some FieldType.int)) (by decide) rfl ?_
  intro p e s m args below meth c s₁ B hml hv
  obtain ⟨rfl, hP, hK⟩ := hv
  have hx := B.exec
  have hb := B.bytes
  have hr := B.returns
  have hts0 := atoms_spec (ws := wl_Doors_spread) B.pre
  have hts : ∀ w ∈ WG, w.before _ s = true := fun w hw => hts0 w (List.mem_cons_of_mem _ hw)
  have hown : s.vm.findClass "PlaceMoves$Doors" = some m.cls := findClass_of_methodNamed B.named
  have hlocks := B.notSynchronized
  have C : CX "PlaceMoves$Doors" prog_2_method_5_code p s m _ c G cI cZ := ⟨hx, hb, hown, hts, hK⟩
  have hl := lv_entry ([.ref (ad 4), .int a1, .long a2]) (n := 7) (Nat.le_of_ble_eq_true rfl)
  rw [lg_entry_eq]
  generalize (lg_sl ([.ref (ad 4), .int a1, .long a2]) ++ List.replicate (7 - (lg_sl ([.ref (ad 4), .int a1, .long a2])).length) Slot.unset).toArray = ls at hl ⊢
  have hl : lv_has ls 7 [(0, .ref (ad 4)), (1, .int a1), (2, .long a2)] := hl
  unfold f_Doors_spread at h
  refine lv_iload_n hx hb d_Doors_spread_0 rfl (lv_at hl 1 rfl) ?_
  refine lv_istore (lv' := [(4, .int a1), (0, .ref (ad 4)), (1, .int a1), (2, .long a2)]) hx hb d_Doors_spread_1 hl (by decide) rfl (fun ls hl => ?_)
  refine lv_iconst (v := 0) hx hb d_Doors_spread_3 (by decide) ?_
  refine lv_istore (lv' := [(5, .int 0), (4, .int a1), (0, .ref (ad 4)), (1, .int a1), (2, .long a2)]) hx hb d_Doors_spread_4 hl (by decide) rfl (fun ls hl => ?_)
  have k6 : ∀ (n6 : Nat) (x1 : Int32) (x2 : Int64) (x4 : Int32) (x5 : Int32) (h : L_Doors_spread_6 σ n6 x1 x2 x4 x5 = some out) (ls : Array Slot) (hl : lv_has ls 7 [(0, .ref (ad 4)), (1, .int x1), (2, .long x2), (4, .int x4), (5, .int x5)]), W p l e (headSpec wl_Doors_spread ({ frames := 0, cells := 0, slots := 0, locals := 0 } : Room)).room s m (([.ref (ad 4), .int a1, .long a2] : List Value).toArray) below meth c s.heap [] 0 0 (MQ below (vp_Si (fun r => r = out)) (([.ref (ad 4), .int a1, .long a2] : List Value).toArray) s 0 0 (fun _ => False)) (F0 m 6 ls []) := by
    intro n6
    induction n6 with
    | zero =>
      intro x1 x2 x4 x5 h
      exact absurd h (by intro z; cases z)
    | succ n6 ih6 =>
      intro x1 x2 x4 x5 h ls hl
      replace h : B_Doors_spread_6 σ (L_Doors_spread_6 σ n6) x1 x2 x4 x5 = some out := h
      unfold B_Doors_spread_6 at h
      refine lv_iload hx hb d_Doors_spread_6 (lv_at hl 4 rfl) ?_
      refine lv_aload_n hx hb d_Doors_spread_8 rfl (lv_at hl 0 rfl) ?_
      refine gf_Doors_24 C hP d_Doors_spread_9 ?_
      refine lv_icmp_ge (tgt := 67) hx hb d_Doors_spread_12 (by decide) (fun c1 => ?_) (fun c1 => ?_)
      · rw [if_pos c1] at h
        refine lv_iload hx hb d_Doors_spread_67 (lv_at hl 3 rfl) ?_
        exact W.iret hx hb hr (fun t ht _ => ⟨_, rfl, Option.some.inj h, ht⟩) (fun _ hq => nomatch hq) d_Doors_spread_69
      · rw [if_neg c1] at h
        refine lv_iconst (v := 1) hx hb d_Doors_spread_15 (by decide) ?_
        refine lv_aload_n hx hb d_Doors_spread_16 rfl (lv_at hl 0 rfl) ?_
        refine gf_Doors_9 C hP d_Doors_spread_17 ?_
        refine lv_iload hx hb d_Doors_spread_20 (lv_at hl 4 rfl) ?_
        obtain ⟨hin, h⟩ := gd_some h
        refine al_21 C hP hin d_Doors_spread_22 ?_
        refine lv_ishl hx hb d_Doors_spread_23 ?_
        refine lv_iconst (v := 1) hx hb d_Doors_spread_24 (by decide) ?_
        refine lv_aload_n hx hb d_Doors_spread_25 rfl (lv_at hl 0 rfl) ?_
        refine gf_Doors_15 C hP d_Doors_spread_26 ?_
        refine lv_iload hx hb d_Doors_spread_29 (lv_at hl 4 rfl) ?_
        obtain ⟨hin, h⟩ := gd_some h
        refine al_22 C hP hin d_Doors_spread_31 ?_
        refine lv_ishl hx hb d_Doors_spread_32 ?_
        refine lv_ior hx hb d_Doors_spread_33 ?_
        obtain ⟨y2, e_y2, h⟩ := lt1_some h
        refine W.eq (g2 := F0 m 34 ls (.int y2 :: [])) (by rw [e_y2]) ?_
        refine lv_istore (lv' := [(6, .int y2), (0, .ref (ad 4)), (1, .int x1), (2, .long x2), (4, .int x4), (5, .int x5)]) hx hb d_Doors_spread_34 hl (by decide) rfl (fun ls hl => ?_)
        refine lv_lload_n hx hb d_Doors_spread_36 rfl (lv_at hl 3 rfl) ?_
        refine lv_iload hx hb d_Doors_spread_37 (lv_at hl 5 rfl) ?_
        refine lv_lushr (v := lush x2 x5) hx hb d_Doors_spread_39 rfl ?_
        refine lv_lconst (v := 1) hx hb d_Doors_spread_40 (by decide) ?_
        refine lv_land hx hb d_Doors_spread_41 ?_
        refine lv_lconst (v := 1) hx hb d_Doors_spread_42 (by decide) ?_
        refine W.lcmp hx hb d_Doors_spread_43 ?_
        refine lv_if_ne (tgt := 61) hx hb d_Doors_spread_44 (by decide) (fun c3 => ?_) (fun c3 => ?_)
        · rw [if_neg c3] at h
          refine lv_iinc (v := x5 + 1) (lv' := [(5, .int (x5 + 1)), (6, .int y2), (0, .ref (ad 4)), (1, .int x1), (2, .long x2), (4, .int x4)]) hx hb d_Doors_spread_61 hl (k := 5) rfl rfl (by decide) rfl (fun ls hl => ?_)
          refine lv_goto (tgt := 6) hx hb d_Doors_spread_64 (by decide) ?_
          exact ih6 x1 x2 x4 (x5 + 1) h _ (lv_sub hl [2, 3, 4, 5, 0] rfl)
        · rw [if_pos c3] at h
          refine lv_iload_n hx hb d_Doors_spread_47 rfl (lv_at hl 2 rfl) ?_
          refine lv_iload hx hb d_Doors_spread_48 (lv_at hl 0 rfl) ?_
          refine lv_iand hx hb d_Doors_spread_50 ?_
          refine lv_if_eq (tgt := 61) hx hb d_Doors_spread_51 (by decide) (fun c4 => ?_) (fun c4 => ?_)
          · rw [if_pos c4] at h
            refine lv_iinc (v := x5 + 1) (lv' := [(5, .int (x5 + 1)), (6, .int y2), (0, .ref (ad 4)), (1, .int x1), (2, .long x2), (4, .int x4)]) hx hb d_Doors_spread_61 hl (k := 5) rfl rfl (by decide) rfl (fun ls hl => ?_)
            refine lv_goto (tgt := 6) hx hb d_Doors_spread_64 (by decide) ?_
            exact ih6 x1 x2 x4 (x5 + 1) h _ (lv_sub hl [2, 3, 4, 5, 0] rfl)
          · rw [if_neg c4] at h
            refine lv_iload hx hb d_Doors_spread_54 (lv_at hl 4 rfl) ?_
            refine lv_iload hx hb d_Doors_spread_56 (lv_at hl 0 rfl) ?_
            refine lv_ior hx hb d_Doors_spread_58 ?_
            refine lv_istore (lv' := [(4, .int (x4 ||| y2)), (6, .int y2), (0, .ref (ad 4)), (1, .int x1), (2, .long x2), (5, .int x5)]) hx hb d_Doors_spread_59 hl (by decide) rfl (fun ls hl => ?_)
            refine lv_iinc (v := x5 + 1) (lv' := [(5, .int (x5 + 1)), (4, .int (x4 ||| y2)), (6, .int y2), (0, .ref (ad 4)), (1, .int x1), (2, .long x2)]) hx hb d_Doors_spread_61 hl (k := 5) rfl rfl (by decide) rfl (fun ls hl => ?_)
            refine lv_goto (tgt := 6) hx hb d_Doors_spread_64 (by decide) ?_
            exact ih6 x1 x2 (x4 ||| y2) (x5 + 1) h _ (lv_sub hl [3, 4, 5, 1, 0] rfl)
  exact k6 _ a1 a2 a1 0 h _ (lv_sub hl [2, 3, 4, 1, 0] rfl)
section RC
variable {p : Program} {l : Launch} {e : Env} {R : Room} {s : State} {m : MethodId} {args : Array Value} {below : List Frame} {meth : Method} {c : Code} {H : Heap} {locs : List Loc} {cells slots : Nat} {Q : State → Prop}
variable {cc : ByteArray} {pc : Nat} {ls : Array Slot} {rest : List Value} {G : va_G} {ad : Nat → Nat} {cI cZ : ClassId} {σ : Sg} {own : String}
theorem cl_PM_254 (C : CX "PlaceMoves" cc p s m args c G cI cZ) (hml : c.maxLocals = ls.size) (hP : va_P G clX (wX ad cI cZ σ) H) {x1 : Int32} {x2 : Int64} {r : Int32} (hg : f_Doors_spread σ x1 x2 = some r) (hR : 0 + 1 ≤ R.frames ∧ 8 + (7 + 11) + 0 ≤ R.locals) (hrest : (rest.map fun v => v.category).sum ≤ 8) (hd : decode cc pc = .ok (.invokevirtual 254, 3)) (hcs : cells + 0 ≤ R.cells ∧ slots + 0 ≤ R.slots) (kk : W p l e R s m args below meth c H locs cells slots Q (F0 m (pc + 3) ls (.int r :: rest))) : W p l e R s m args below meth c H locs cells slots Q (F0 m pc ls (.long x2 :: .int x1 :: .ref (ad 4) :: rest)) :=
  vp_callSi (W.runV (As := [.int x1, .long x2]) (rest := rest) ⟨C.1, C.2.1, hml, C.2.2.1, C.2.2.2.1⟩ (c_Doors_spread l G ad cI cZ σ x1 x2 r hg) (cwV 2 C.2.2.2.1 (wg_V w_548 w_549 w_550 w_5 w_551) rfl rfl rfl (by decide +kernel) hR) ⟨PcX.blind, va_recv C.2.2.2.2.1 hP (ci := 4) (q0 := 4) rfl rfl, fun U hU hW => ⟨rfl, by rw [hU]; exact hP, C.2.2.2.2.warm hW⟩⟩ rfl rfl rfl rfl (lv_room hrest) hd hcs) (fun r' e => by subst e; exact kk)
end RC
abbrev wl_PM_doorsBetween : List Cond := .code ⟨"PlaceMoves", "doorsBetween", "(IIJ)I"⟩ prog_1_method_38_code 8 (some FieldType.int) :: WG
set_option maxHeartbeats 4000000 in
set_option maxRecDepth 100000 in
theorem c_PM_doorsBetween (l : Launch) (G : va_G) (ad : Nat → Nat) (cI cZ : ClassId) (σ : Sg) (a1 : Int32) (a2 : Int32) (a3 : Int64) (out : Int32) (h : f_PM_doorsBetween σ a1 a2 a3 = some out) : Met l ⟨"PlaceMoves", "doorsBetween", "(IIJ)I"⟩ wl_PM_doorsBetween ({ frames := 1, cells := 0, slots := 0, locals := 26 } : Room) (PcX G ad cI cZ σ [.ref (ad 0), .int a1, .int a2, .long a3]) (vp_Si (fun r => r = out)) 0 0 (fun _ => False) := by
  refine Met.ofW (cc := prog_1_method_38_code) (maxL := 8) (ret := (some FieldType.int)) (by decide) rfl ?_
  intro p e s m args below meth c s₁ B hml hv
  obtain ⟨rfl, hP, hK⟩ := hv
  have hx := B.exec
  have hb := B.bytes
  have hr := B.returns
  have hts0 := atoms_spec (ws := wl_PM_doorsBetween) B.pre
  have hts : ∀ w ∈ WG, w.before _ s = true := fun w hw => hts0 w (List.mem_cons_of_mem _ hw)
  have hown : s.vm.findClass "PlaceMoves" = some m.cls := findClass_of_methodNamed B.named
  have hlocks := B.notSynchronized
  have C : CX "PlaceMoves" prog_1_method_38_code p s m _ c G cI cZ := ⟨hx, hb, hown, hts, hK⟩
  have hl := lv_entry ([.ref (ad 0), .int a1, .int a2, .long a3]) (n := 8) (Nat.le_of_ble_eq_true rfl)
  rw [lg_entry_eq]
  generalize (lg_sl ([.ref (ad 0), .int a1, .int a2, .long a3]) ++ List.replicate (8 - (lg_sl ([.ref (ad 0), .int a1, .int a2, .long a3])).length) Slot.unset).toArray = ls at hl ⊢
  have hl : lv_has ls 8 [(0, .ref (ad 0)), (1, .int a1), (2, .int a2), (3, .long a3)] := hl
  unfold f_PM_doorsBetween at h
  refine lv_iconst (v := 1) hx hb d_PM_doorsBetween_0 (by decide) ?_
  refine lv_iload_n hx hb d_PM_doorsBetween_1 rfl (lv_at hl 1 rfl) ?_
  refine lv_ishl hx hb d_PM_doorsBetween_2 ?_
  obtain ⟨y1, e_y1, h⟩ := lt1_some h
  refine W.eq (g2 := F0 m 3 ls (.int y1 :: [])) (by rw [e_y1]) ?_
  refine lv_istore (lv' := [(5, .int y1), (0, .ref (ad 0)), (1, .int a1), (2, .int a2), (3, .long a3)]) hx hb d_PM_doorsBetween_3 hl (by decide) rfl (fun ls hl => ?_)
  refine lv_iconst (v := 0) hx hb d_PM_doorsBetween_5 (by decide) ?_
  refine lv_istore (lv' := [(6, .int 0), (5, .int y1), (0, .ref (ad 0)), (1, .int a1), (2, .int a2), (3, .long a3)]) hx hb d_PM_doorsBetween_6 hl (by decide) rfl (fun ls hl => ?_)
  have k8 : ∀ (n8 : Nat) (x2 : Int32) (x3 : Int64) (x5 : Int32) (x6 : Int32) (h : L_PM_doorsBetween_8 σ n8 x2 x3 x5 x6 = some out) (ls : Array Slot) (hl : lv_has ls 8 [(0, .ref (ad 0)), (2, .int x2), (3, .long x3), (5, .int x5), (6, .int x6)]), W p l e (headSpec wl_PM_doorsBetween ({ frames := 1, cells := 0, slots := 0, locals := 26 } : Room)).room s m (([.ref (ad 0), .int a1, .int a2, .long a3] : List Value).toArray) below meth c s.heap [] 0 0 (MQ below (vp_Si (fun r => r = out)) (([.ref (ad 0), .int a1, .int a2, .long a3] : List Value).toArray) s 0 0 (fun _ => False)) (F0 m 8 ls []) := by
    intro n8
    induction n8 with
    | zero =>
      intro x2 x3 x5 x6 h
      exact absurd h (by intro z; cases z)
    | succ n8 ih8 =>
      intro x2 x3 x5 x6 h ls hl
      replace h : B_PM_doorsBetween_8 σ (L_PM_doorsBetween_8 σ n8) x2 x3 x5 x6 = some out := h
      unfold B_PM_doorsBetween_8 at h
      refine lv_iload hx hb d_PM_doorsBetween_8 (lv_at hl 4 rfl) ?_
      refine lv_bipush (v := 24) hx hb d_PM_doorsBetween_10 (by decide) ?_
      refine lv_icmp_ge (tgt := 59) hx hb d_PM_doorsBetween_12 (by decide) (fun c2 => ?_) (fun c2 => ?_)
      · rw [if_pos c2] at h
        refine lv_iconst (v := (-1)) hx hb d_PM_doorsBetween_59 (by decide) ?_
        exact W.iret hx hb hr (fun t ht _ => ⟨_, rfl, Option.some.inj h, ht⟩) (fun _ hq => nomatch hq) d_PM_doorsBetween_60
      · rw [if_neg c2] at h
        refine lv_iload hx hb d_PM_doorsBetween_15 (lv_at hl 3 rfl) ?_
        refine lv_iload_n hx hb d_PM_doorsBetween_17 rfl (lv_at hl 1 rfl) ?_
        refine lv_iushr (v := ush x5 x2) hx hb d_PM_doorsBetween_18 rfl ?_
        refine lv_iconst (v := 1) hx hb d_PM_doorsBetween_19 (by decide) ?_
        refine lv_iand hx hb d_PM_doorsBetween_20 ?_
        refine lv_iconst (v := 1) hx hb d_PM_doorsBetween_21 (by decide) ?_
        refine lv_icmp_ne (tgt := 28) hx hb d_PM_doorsBetween_22 (by decide) (fun c3 => ?_) (fun c3 => ?_)
        · rw [if_neg c3] at h
          refine lv_aload_n hx hb d_PM_doorsBetween_28 rfl (lv_at hl 0 rfl) ?_
          refine gf_PM_33 C hP d_PM_doorsBetween_29 ?_
          refine lv_iload hx hb d_PM_doorsBetween_32 (lv_at hl 3 rfl) ?_
          refine lv_lload_n hx hb d_PM_doorsBetween_34 rfl (lv_at hl 2 rfl) ?_
          obtain ⟨r4, g_r4, h⟩ := ob_some h
          refine cl_PM_254 (rest := []) C (hml.trans hl.1.symm) hP g_r4 ⟨Nat.le_of_ble_eq_true rfl, Nat.le_of_ble_eq_true rfl⟩ (Nat.le_of_ble_eq_true rfl) d_PM_doorsBetween_35 ⟨Nat.zero_le _, Nat.zero_le _⟩ ?_
          refine lv_istore (lv' := [(7, .int r4), (0, .ref (ad 0)), (2, .int x2), (3, .long x3), (5, .int x5), (6, .int x6)]) hx hb d_PM_doorsBetween_38 hl (by decide) rfl (fun ls hl => ?_)
          refine lv_iload hx hb d_PM_doorsBetween_40 (lv_at hl 0 rfl) ?_
          refine lv_iload hx hb d_PM_doorsBetween_42 (lv_at hl 4 rfl) ?_
          refine lv_icmp_ne (tgt := 49) hx hb d_PM_doorsBetween_44 (by decide) (fun c5 => ?_) (fun c5 => ?_)
          · rw [if_neg c5] at h
            refine lv_iload hx hb d_PM_doorsBetween_49 (lv_at hl 0 rfl) ?_
            refine lv_istore (lv' := [(5, .int r4), (7, .int r4), (0, .ref (ad 0)), (2, .int x2), (3, .long x3), (6, .int x6)]) hx hb d_PM_doorsBetween_51 hl (by decide) rfl (fun ls hl => ?_)
            refine lv_iinc (v := x6 + 1) (lv' := [(6, .int (x6 + 1)), (5, .int r4), (7, .int r4), (0, .ref (ad 0)), (2, .int x2), (3, .long x3)]) hx hb d_PM_doorsBetween_53 hl (k := 5) rfl rfl (by decide) rfl (fun ls hl => ?_)
            refine lv_goto (tgt := 8) hx hb d_PM_doorsBetween_56 (by decide) ?_
            exact ih8 x2 x3 r4 (x6 + 1) h _ (lv_sub hl [3, 4, 5, 1, 0] rfl)
          · rw [if_pos c5] at h
            refine lv_iconst (v := (-1)) hx hb d_PM_doorsBetween_47 (by decide) ?_
            exact W.iret hx hb hr (fun t ht _ => ⟨_, rfl, Option.some.inj h, ht⟩) (fun _ hq => nomatch hq) d_PM_doorsBetween_48
        · rw [if_pos c3] at h
          refine lv_iload hx hb d_PM_doorsBetween_25 (lv_at hl 4 rfl) ?_
          exact W.iret hx hb hr (fun t ht _ => ⟨_, rfl, Option.some.inj h, ht⟩) (fun _ hq => nomatch hq) d_PM_doorsBetween_27
  exact k8 _ a2 a3 y1 0 h _ (lv_sub hl [2, 4, 5, 1, 0] rfl)
section RC
variable {p : Program} {l : Launch} {e : Env} {R : Room} {s : State} {m : MethodId} {args : Array Value} {below : List Frame} {meth : Method} {c : Code} {H : Heap} {locs : List Loc} {cells slots : Nat} {Q : State → Prop}
variable {cc : ByteArray} {pc : Nat} {ls : Array Slot} {rest : List Value} {G : va_G} {ad : Nat → Nat} {cI cZ : ClassId} {σ : Sg} {own : String}
theorem cl_PM_160 (C : CX "PlaceMoves" cc p s m args c G cI cZ) (hml : c.maxLocals = ls.size) (hP : va_P G clX (wX ad cI cZ σ) H) {x1 : Int32} {x2 : Int32} {x3 : Int64} {r : Int32} (hg : f_PM_doorsBetween σ x1 x2 x3 = some r) (hR : 1 + 1 ≤ R.frames ∧ 8 + (8 + 11) + 26 ≤ R.locals) (hrest : (rest.map fun v => v.category).sum ≤ 8) (hd : decode cc pc = .ok (.invokevirtual 160, 3)) (hcs : cells + 0 ≤ R.cells ∧ slots + 0 ≤ R.slots) (kk : W p l e R s m args below meth c H locs cells slots Q (F0 m (pc + 3) ls (.int r :: rest))) : W p l e R s m args below meth c H locs cells slots Q (F0 m pc ls (.long x3 :: .int x2 :: .int x1 :: .ref (ad 0) :: rest)) :=
  vp_callSi (W.runV (As := [.int x1, .int x2, .long x3]) (rest := rest) ⟨C.1, C.2.1, hml, C.2.2.1, C.2.2.2.1⟩ (c_PM_doorsBetween l G ad cI cZ σ x1 x2 x3 r hg) (cwV 3 C.2.2.2.1 (wg_V w_544 w_546 ws_16 w_1 w_547) rfl rfl rfl (by decide +kernel) hR) ⟨PcX.blind, va_recv C.2.2.2.2.1 hP (ci := 0) (q0 := 0) rfl rfl, fun U hU hW => ⟨rfl, by rw [hU]; exact hP, C.2.2.2.2.warm hW⟩⟩ rfl rfl rfl rfl (lv_room hrest) hd hcs) (fun r' e => by subst e; exact kk)
end RC
