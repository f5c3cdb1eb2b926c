abbrev wl_Places_around : List Cond := .code ⟨"PlaceMoves$Places", "around", "(I)I"⟩ prog_3_method_3_code 2 (some FieldType.int) :: WG
set_option maxHeartbeats 4000000 in
set_option maxRecDepth 100000 in
theorem c_Places_around (l : Launch) (G : va_G) (ad : Nat → Nat) (cI cZ : ClassId) (σ : Sg) (a1 : Int32) (out : Int32) (h : f_Places_around σ a1 = some out) : Met l ⟨"PlaceMoves$Places", "around", "(I)I"⟩ wl_Places_around ({ frames := 0, cells := 0, slots := 0, locals := 0 } : Room) (PcX G ad cI cZ σ [.ref (ad 1), .int a1]) (vp_Si (fun r => r = out)) 0 0 (fun _ => False) := by
  refine Met.ofW (cc := prog_3_method_3_code) (maxL := 2) (ret := (some FieldType.int)) (by decide) rfl ?_
  intro p e s m args below meth c s₁ B hml hv
  obtain ⟨rfl, hP, hK⟩ := hv
  have hx := B.exec
  have hb := B.bytes
  have hr := B.returns
  have hts0 := atoms_spec (ws := wl_Places_around) B.pre
  have hts : ∀ w ∈ WG, w.before _ s = true := fun w hw => hts0 w (List.mem_cons_of_mem _ hw)
  have hown : s.vm.findClass "PlaceMoves$Places" = some m.cls := findClass_of_methodNamed B.named
  have hlocks := B.notSynchronized
  have C : CX "PlaceMoves$Places" prog_3_method_3_code p s m _ c G cI cZ := ⟨hx, hb, hown, hts, hK⟩
  have hl := lv_entry ([.ref (ad 1), .int a1]) (n := 2) (Nat.le_of_ble_eq_true rfl)
  rw [lg_entry_eq]
  generalize (lg_sl ([.ref (ad 1), .int a1]) ++ List.replicate (2 - (lg_sl ([.ref (ad 1), .int a1])).length) Slot.unset).toArray = ls at hl ⊢
  have hl : lv_has ls 2 [(0, .ref (ad 1)), (1, .int a1)] := hl
  unfold f_Places_around at h
  refine lv_iload_n hx hb d_Places_around_0 rfl (lv_at hl 1 rfl) ?_
  refine lv_if_lt (tgt := 12) hx hb d_Places_around_1 (by decide) (fun c1 => ?_) (fun c1 => ?_)
  · rw [if_pos c1] at h
    refine lv_iconst (v := 0) hx hb d_Places_around_12 (by decide) ?_
    refine lv_goto (tgt := 22) hx hb d_Places_around_13 (by decide) ?_
    exact W.iret hx hb hr (fun t ht _ => ⟨_, rfl, Option.some.inj h, ht⟩) (fun _ hq => nomatch hq) d_Places_around_22
  · rw [if_neg c1] at h
    refine lv_iload_n hx hb d_Places_around_4 rfl (lv_at hl 1 rfl) ?_
    refine lv_aload_n hx hb d_Places_around_5 rfl (lv_at hl 0 rfl) ?_
    refine gf_Places_18 C hP d_Places_around_6 ?_
    refine lv_icmp_lt (tgt := 16) hx hb d_Places_around_9 (by decide) (fun c2 => ?_) (fun c2 => ?_)
    · rw [if_pos c2] at h
      refine lv_aload_n hx hb d_Places_around_16 rfl (lv_at hl 0 rfl) ?_
      refine gf_Places_15 C hP d_Places_around_17 ?_
      refine lv_iload_n hx hb d_Places_around_20 rfl (lv_at hl 1 rfl) ?_
      obtain ⟨hin, h⟩ := gd_some h
      refine al_10 C hP hin d_Places_around_21 ?_
      exact W.iret hx hb hr (fun t ht _ => ⟨_, rfl, Option.some.inj h, ht⟩) (fun _ hq => nomatch hq) d_Places_around_22
    · rw [if_neg c2] at h
      refine lv_iconst (v := 0) hx hb d_Places_around_12 (by decide) ?_
      refine lv_goto (tgt := 22) hx hb d_Places_around_13 (by decide) ?_
      exact W.iret hx hb hr (fun t ht _ => ⟨_, rfl, Option.some.inj h, ht⟩) (fun _ hq => nomatch hq) d_Places_around_22
section RC
variable {p : Program} {l : Launch} {e : Env} {R : Room} {s : State} {m : MethodId} {args : Array Value} {below : List Frame} {meth : Method} {c : Code} {H : Heap} {locs : List Loc} {cells slots : Nat} {Q : State → Prop}
variable {cc : ByteArray} {pc : Nat} {ls : Array Slot} {rest : List Value} {G : va_G} {ad : Nat → Nat} {cI cZ : ClassId} {σ : Sg} {own : String}
theorem cl_PM_231 (C : CX "PlaceMoves" cc p s m args c G cI cZ) (hml : c.maxLocals = ls.size) (hP : va_P G clX (wX ad cI cZ σ) H) {x1 : Int32} {r : Int32} (hg : f_Places_around σ x1 = some r) (hR : 0 + 1 ≤ R.frames ∧ 8 + (2 + 11) + 0 ≤ R.locals) (hrest : (rest.map fun v => v.category).sum ≤ 8) (hd : decode cc pc = .ok (.invokevirtual 231, 3)) (hcs : cells + 0 ≤ R.cells ∧ slots + 0 ≤ R.slots) (kk : W p l e R s m args below meth c H locs cells slots Q (F0 m (pc + 3) ls (.int r :: rest))) : W p l e R s m args below meth c H locs cells slots Q (F0 m pc ls (.int x1 :: .ref (ad 1) :: rest)) :=
  vp_callSi (W.runV (As := [.int x1]) (rest := rest) ⟨C.1, C.2.1, hml, C.2.2.1, C.2.2.2.1⟩ (c_Places_around l G ad cI cZ σ x1 r hg) (cwV 1 C.2.2.2.1 (wg_V w_438 w_333 w_334 w_2 w_335) rfl rfl rfl (by decide +kernel) hR) ⟨PcX.blind, va_recv C.2.2.2.2.1 hP (ci := 1) (q0 := 1) rfl rfl, fun U hU hW => ⟨rfl, by rw [hU]; exact hP, C.2.2.2.2.warm hW⟩⟩ rfl rfl rfl rfl (lv_room hrest) hd hcs) (fun r' e => by subst e; exact kk)
theorem cl_Places_22 (C : CX "PlaceMoves$Places" cc p s m args c G cI cZ) (hml : c.maxLocals = ls.size) (hP : va_P G clX (wX ad cI cZ σ) H) {x1 : Int32} {r : Int32} (hg : f_Places_around σ x1 = some r) (hR : 0 + 1 ≤ R.frames ∧ 8 + (2 + 11) + 0 ≤ R.locals) (hrest : (rest.map fun v => v.category).sum ≤ 8) (hd : decode cc pc = .ok (.invokevirtual 22, 3)) (hcs : cells + 0 ≤ R.cells ∧ slots + 0 ≤ R.slots) (kk : W p l e R s m args below meth c H locs cells slots Q (F0 m (pc + 3) ls (.int r :: rest))) : W p l e R s m args below meth c H locs cells slots Q (F0 m pc ls (.int x1 :: .ref (ad 1) :: rest)) :=
  vp_callSi (W.runV (As := [.int x1]) (rest := rest) ⟨C.1, C.2.1, hml, C.2.2.1, C.2.2.2.1⟩ (c_Places_around l G ad cI cZ σ x1 r hg) (cwV 1 C.2.2.2.1 (wg_V w_332 w_333 w_334 w_2 w_335) rfl rfl rfl (by decide +kernel) hR) ⟨PcX.blind, va_recv C.2.2.2.2.1 hP (ci := 1) (q0 := 1) rfl rfl, fun U hU hW => ⟨rfl, by rw [hU]; exact hP, C.2.2.2.2.warm hW⟩⟩ rfl rfl rfl rfl (lv_room hrest) hd hcs) (fun r' e => by subst e; exact kk)
end RC
abbrev wl_Rows_index : List Cond := .code ⟨"PlaceMoves$Rows", "index", "(II)I"⟩ prog_6_method_2_code 2 (some FieldType.int) :: WG
set_option maxHeartbeats 4000000 in
set_option maxRecDepth 100000 in
theorem c_Rows_index (l : Launch) (G : va_G) (ad : Nat → Nat) (cI cZ : ClassId) (σ : Sg) (a0 : Int32) (a1 : Int32) (out : Int32) (h : f_Rows_index σ a0 a1 = some out) : Met l ⟨"PlaceMoves$Rows", "index", "(II)I"⟩ wl_Rows_index ({ frames := 0, cells := 0, slots := 0, locals := 0 } : Room) (PcX G ad cI cZ σ [.int a0, .int a1]) (vp_Si (fun r => r = out)) 0 0 (fun _ => False) := by
  refine Met.ofW (cc := prog_6_method_2_code) (maxL := 2) (ret := (some FieldType.int)) (by decide) rfl ?_
  intro p e s m args below meth c s₁ B hml hv
  obtain ⟨rfl, hP, hK⟩ := hv
  have hx := B.exec
  have hb := B.bytes
  have hr := B.returns
  have hts0 := atoms_spec (ws := wl_Rows_index) B.pre
  have hts : ∀ w ∈ WG, w.before _ s = true := fun w hw => hts0 w (List.mem_cons_of_mem _ hw)
  have hown : s.vm.findClass "PlaceMoves$Rows" = some m.cls := findClass_of_methodNamed B.named
  have hlocks := B.notSynchronized
  have C : CX "PlaceMoves$Rows" prog_6_method_2_code p s m _ c G cI cZ := ⟨hx, hb, hown, hts, hK⟩
  have hl := lv_entry ([.int a0, .int a1]) (n := 2) (Nat.le_of_ble_eq_true rfl)
  rw [lg_entry_eq]
  generalize (lg_sl ([.int a0, .int a1]) ++ List.replicate (2 - (lg_sl ([.int a0, .int a1])).length) Slot.unset).toArray = ls at hl ⊢
  have hl : lv_has ls 2 [(0, .int a0), (1, .int a1)] := hl
  unfold f_Rows_index at h
  refine lv_iload_n hx hb d_Rows_index_0 rfl (lv_at hl 0 rfl) ?_
  refine lv_bipush (v := 40) hx hb d_Rows_index_1 (by decide) ?_
  refine lv_imul hx hb d_Rows_index_3 ?_
  refine lv_iload_n hx hb d_Rows_index_4 rfl (lv_at hl 1 rfl) ?_
  refine lv_iadd hx hb d_Rows_index_5 ?_
  exact W.iret hx hb hr (fun t ht _ => ⟨_, rfl, Option.some.inj h, ht⟩) (fun _ hq => nomatch hq) d_Rows_index_6
section RC
variable {p : Program} {l : Launch} {e : Env} {R : Room} {s : State} {m : MethodId} {args : Array Value} {below : List Frame} {meth : Method} {c : Code} {H : Heap} {locs : List Loc} {cells slots : Nat} {Q : State → Prop}
variable {cc : ByteArray} {pc : Nat} {ls : Array Slot} {rest : List Value} {G : va_G} {ad : Nat → Nat} {cI cZ : ClassId} {σ : Sg} {own : String}
theorem cl_PM_135 (C : CX "PlaceMoves" cc p s m args c G cI cZ) (hml : c.maxLocals = ls.size) (hP : va_P G clX (wX ad cI cZ σ) H) {x0 : Int32} {x1 : Int32} {r : Int32} (hg : f_Rows_index σ x0 x1 = some r) (hR : 0 + 1 ≤ R.frames ∧ 8 + (2 + 11) + 0 ≤ R.locals) (hrest : (rest.map fun v => v.category).sum ≤ 8) (hd : decode cc pc = .ok (.invokestatic 135, 3)) (hcs : cells + 0 ≤ R.cells ∧ slots + 0 ≤ R.slots) (kk : W p l e R s m args below meth c H locs cells slots Q (F0 m (pc + 3) ls (.int r :: rest))) : W p l e R s m args below meth c H locs cells slots Q (F0 m pc ls (.int x1 :: .int x0 :: rest)) :=
  vp_callSi (W.runS (As := [.int x0, .int x1]) (rest := rest) ⟨C.1, C.2.1, hml, C.2.2.1, C.2.2.2.1⟩ (c_Rows_index l G ad cI cZ σ x0 x1 r hg) (va_cwS 2 C.2.2.2.1 (wg_S w_499 w_404 w_4 w_405) rfl rfl rfl (by decide +kernel) hR) ⟨PcX.blind, fun U hU hW => ⟨rfl, by rw [hU]; exact hP, C.2.2.2.2.warm hW⟩⟩ rfl rfl rfl rfl (lv_room hrest) hd hcs) (fun r' e => by subst e; exact kk)
theorem cl_Rows_28 (C : CX "PlaceMoves$Rows" cc p s m args c G cI cZ) (hml : c.maxLocals = ls.size) (hP : va_P G clX (wX ad cI cZ σ) H) {x0 : Int32} {x1 : Int32} {r : Int32} (hg : f_Rows_index σ x0 x1 = some r) (hR : 0 + 1 ≤ R.frames ∧ 8 + (2 + 11) + 0 ≤ R.locals) (hrest : (rest.map fun v => v.category).sum ≤ 8) (hd : decode cc pc = .ok (.invokestatic 28, 3)) (hcs : cells + 0 ≤ R.cells ∧ slots + 0 ≤ R.slots) (kk : W p l e R s m args below meth c H locs cells slots Q (F0 m (pc + 3) ls (.int r :: rest))) : W p l e R s m args below meth c H locs cells slots Q (F0 m pc ls (.int x1 :: .int x0 :: rest)) :=
  vp_callSi (W.runS (As := [.int x0, .int x1]) (rest := rest) ⟨C.1, C.2.1, hml, C.2.2.1, C.2.2.2.1⟩ (c_Rows_index l G ad cI cZ σ x0 x1 r hg) (va_cwS 2 C.2.2.2.1 (wg_S w_403 w_404 w_4 w_405) rfl rfl rfl (by decide +kernel) hR) ⟨PcX.blind, fun U hU hW => ⟨rfl, by rw [hU]; exact hP, C.2.2.2.2.warm hW⟩⟩ rfl rfl rfl rfl (lv_room hrest) hd hcs) (fun r' e => by subst e; exact kk)
end RC
abbrev wl_Rows_held : List Cond := .code ⟨"PlaceMoves$Rows", "held", "(II)I"⟩ prog_6_method_5_code 5 (some FieldType.int) :: WG
set_option maxHeartbeats 4000000 in
set_option maxRecDepth 100000 in
theorem c_Rows_held (l : Launch) (G : va_G) (ad : Nat → Nat) (cI cZ : ClassId) (σ : Sg) (a1 : Int32) (a2 : Int32) (out : Int32) (h : f_Rows_held σ a1 a2 = some out) : Met l ⟨"PlaceMoves$Rows", "held", "(II)I"⟩ wl_Rows_held ({ frames := 1, cells := 0, slots := 0, locals := 21 } : Room) (PcX G ad cI cZ σ [.ref (ad 3), .int a1, .int a2]) (vp_Si (fun r => r = out)) 0 0 (fun _ => False) := by
  refine Met.ofW (cc := prog_6_method_5_code) (maxL := 5) (ret := (some FieldType.int)) (by decide) rfl ?_
  intro p e s m args below meth c s₁ B hml hv
  obtain ⟨rfl, hP, hK⟩ := hv
  have hx := B.exec
  have hb := B.bytes
  have hr := B.returns
  have hts0 := atoms_spec (ws := wl_Rows_held) B.pre
  have hts : ∀ w ∈ WG, w.before _ s = true := fun w hw => hts0 w (List.mem_cons_of_mem _ hw)
  have hown : s.vm.findClass "PlaceMoves$Rows" = some m.cls := findClass_of_methodNamed B.named
  have hlocks := B.notSynchronized
  have C : CX "PlaceMoves$Rows" prog_6_method_5_code p s m _ c G cI cZ := ⟨hx, hb, hown, hts, hK⟩
  have hl := lv_entry ([.ref (ad 3), .int a1, .int a2]) (n := 5) (Nat.le_of_ble_eq_true rfl)
  rw [lg_entry_eq]
  generalize (lg_sl ([.ref (ad 3), .int a1, .int a2]) ++ List.replicate (5 - (lg_sl ([.ref (ad 3), .int a1, .int a2])).length) Slot.unset).toArray = ls at hl ⊢
  have hl : lv_has ls 5 [(0, .ref (ad 3)), (1, .int a1), (2, .int a2)] := hl
  unfold f_Rows_held at h
  refine lv_aload_n hx hb d_Rows_held_0 rfl (lv_at hl 0 rfl) ?_
  refine gf_Rows_9 C hP d_Rows_held_1 ?_
  refine lv_iload_n hx hb d_Rows_held_4 rfl (lv_at hl 1 rfl) ?_
  obtain ⟨hin, h⟩ := gd_some h
  refine al_17 C hP hin d_Rows_held_5 ?_
  refine lv_iconst (v := 1) hx hb d_Rows_held_6 (by decide) ?_
  refine lv_isub hx hb d_Rows_held_7 ?_
  refine lv_istore_n (lv' := [(3, .int ((σ 17 (Int32.toNatClampNeg a1)) - 1)), (0, .ref (ad 3)), (1, .int a1), (2, .int a2)]) hx hb d_Rows_held_8 rfl hl (by decide) rfl (fun ls hl => ?_)
  have k9 : ∀ (n9 : Nat) (x1 : Int32) (x2 : Int32) (x3 : Int32) (h : L_Rows_held_9 σ n9 x1 x2 x3 = some out) (ls : Array Slot) (hl : lv_has ls 5 [(0, .ref (ad 3)), (1, .int x1), (2, .int x2), (3, .int x3)]), W p l e (headSpec wl_Rows_held ({ frames := 1, cells := 0, slots := 0, locals := 21 } : Room)).room s m (([.ref (ad 3), .int a1, .int a2] : List Value).toArray) below meth c s.heap [] 0 0 (MQ below (vp_Si (fun r => r = out)) (([.ref (ad 3), .int a1, .int a2] : List Value).toArray) s 0 0 (fun _ => False)) (F0 m 9 ls []) := by
    intro n9
    induction n9 with
    | zero =>
      intro x1 x2 x3 h
      exact absurd h (by intro z; cases z)
    | succ n9 ih9 =>
      intro x1 x2 x3 h ls hl
      replace h : B_Rows_held_9 σ (L_Rows_held_9 σ n9) x1 x2 x3 = some out := h
      unfold B_Rows_held_9 at h
      refine lv_iload_n hx hb d_Rows_held_9 rfl (lv_at hl 3 rfl) ?_
      refine lv_if_lt (tgt := 40) hx hb d_Rows_held_10 (by decide) (fun c1 => ?_) (fun c1 => ?_)
      · rw [if_pos c1] at h
        refine lv_iconst (v := (-1)) hx hb d_Rows_held_40 (by decide) ?_
        exact W.iret hx hb hr (fun t ht _ => ⟨_, rfl, Option.some.inj h, ht⟩) (fun _ hq => nomatch hq) d_Rows_held_41
      · rw [if_neg c1] at h
        refine lv_iload_n hx hb d_Rows_held_13 rfl (lv_at hl 1 rfl) ?_
        refine lv_iload_n hx hb d_Rows_held_14 rfl (lv_at hl 3 rfl) ?_
        obtain ⟨r2, g_r2, h⟩ := ob_some h
        refine cl_Rows_28 (rest := []) C (hml.trans hl.1.symm) hP g_r2 ⟨Nat.le_of_ble_eq_true rfl, Nat.le_of_ble_eq_true rfl⟩ (Nat.le_of_ble_eq_true rfl) d_Rows_held_15 ⟨Nat.zero_le _, Nat.zero_le _⟩ ?_
        refine lv_istore (lv' := [(4, .int r2), (0, .ref (ad 3)), (1, .int x1), (2, .int x2), (3, .int x3)]) hx hb d_Rows_held_18 hl (by decide) rfl (fun ls hl => ?_)
        refine lv_aload_n hx hb d_Rows_held_20 rfl (lv_at hl 1 rfl) ?_
        refine gf_Rows_15 C hP d_Rows_held_21 ?_
        refine lv_iload hx hb d_Rows_held_24 (lv_at hl 0 rfl) ?_
        obtain ⟨hin, h⟩ := gd_some h
        refine al_18 C hP hin d_Rows_held_26 ?_
        refine lv_iload_n hx hb d_Rows_held_27 rfl (lv_at hl 3 rfl) ?_
        refine lv_icmp_gt (tgt := 34) hx hb d_Rows_held_28 (by decide) (fun c3 => ?_) (fun c3 => ?_)
        · rw [if_pos c3] at h
          refine lv_iinc (v := x3 + (-1)) (lv' := [(3, .int (x3 + (-1))), (4, .int r2), (0, .ref (ad 3)), (1, .int x1), (2, .int x2)]) hx hb d_Rows_held_34 hl (k := 4) rfl rfl (by decide) rfl (fun ls hl => ?_)
          refine lv_goto (tgt := 9) hx hb d_Rows_held_37 (by decide) ?_
          exact ih9 x1 x2 (x3 + (-1)) h _ (lv_sub hl [2, 3, 4, 0] rfl)
        · rw [if_neg c3] at h
          refine lv_iload hx hb d_Rows_held_31 (lv_at hl 0 rfl) ?_
          exact W.iret hx hb hr (fun t ht _ => ⟨_, rfl, Option.some.inj h, ht⟩) (fun _ hq => nomatch hq) d_Rows_held_33
  exact k9 _ a1 a2 ((σ 17 (Int32.toNatClampNeg a1)) - 1) h _ (lv_sub hl [1, 2, 3, 0] rfl)
section RC
variable {p : Program} {l : Launch} {e : Env} {R : Room} {s : State} {m : MethodId} {args : Array Value} {below : List Frame} {meth : Method} {c : Code} {H : Heap} {locs : List Loc} {cells slots : Nat} {Q : State → Prop}
variable {cc : ByteArray} {pc : Nat} {ls : Array Slot} {rest : List Value} {G : va_G} {ad : Nat → Nat} {cI cZ : ClassId} {σ : Sg} {own : String}
theorem cl_PM_123 (C : CX "PlaceMoves" cc p s m args c G cI cZ) (hml : c.maxLocals = ls.size) (hP : va_P G clX (wX ad cI cZ σ) H) {x1 : Int32} {x2 : Int32} {r : Int32} (hg : f_Rows_held σ x1 x2 = some r) (hR : 1 + 1 ≤ R.frames ∧ 8 + (5 + 11) + 21 ≤ R.locals) (hrest : (rest.map fun v => v.category).sum ≤ 8) (hd : decode cc pc = .ok (.invokevirtual 123, 3)) (hcs : cells + 0 ≤ R.cells ∧ slots + 0 ≤ R.slots) (kk : W p l e R s m args below meth c H locs cells slots Q (F0 m (pc + 3) ls (.int r :: rest))) : W p l e R s m args below meth c H locs cells slots Q (F0 m pc ls (.int x2 :: .int x1 :: .ref (ad 3) :: rest)) :=
  vp_callSi (W.runV (As := [.int x1, .int x2]) (rest := rest) ⟨C.1, C.2.1, hml, C.2.2.1, C.2.2.2.1⟩ (c_Rows_held l G ad cI cZ σ x1 x2 r hg) (cwV 2 C.2.2.2.1 (wg_V w_399 w_400 w_401 w_4 w_402) rfl rfl rfl (by decide +kernel) hR) ⟨PcX.blind, va_recv C.2.2.2.2.1 hP (ci := 3) (q0 := 3) rfl rfl, fun U hU hW => ⟨rfl, by rw [hU]; exact hP, C.2.2.2.2.warm hW⟩⟩ rfl rfl rfl rfl (lv_room hrest) hd hcs) (fun r' e => by subst e; exact kk)
end RC
abbrev wl_PM_placeAt : List Cond := .code ⟨"PlaceMoves", "placeAt", "(II)I"⟩ prog_1_method_27_code 6 (some FieldType.int) :: WG
set_option maxHeartbeats 4000000 in
set_option maxRecDepth 100000 in
theorem c_PM_placeAt (l : Launch) (G : va_G) (ad : Nat → Nat) (cI cZ : ClassId) (σ : Sg) (a1 : Int32) (a2 : Int32) (out : Int32) (h : f_PM_placeAt σ a1 a2 = some out) : Met l ⟨"PlaceMoves", "placeAt", "(II)I"⟩ wl_PM_placeAt ({ frames := 2, cells := 0, slots := 0, locals := 45 } : Room) (PcX G ad cI cZ σ [.ref (ad 0), .int a1, .int a2]) (vp_Si (fun r => r = out)) 0 0 (fun _ => False) := by
  refine Met.ofW (cc := prog_1_method_27_code) (maxL := 6) (ret := (some FieldType.int)) (by decide) rfl ?_
  intro p e s m args below meth c s₁ B hml hv
  obtain ⟨rfl, hP, hK⟩ := hv
  have hx := B.exec
  have hb := B.bytes
  have hr := B.returns
  have hts0 := atoms_spec (ws := wl_PM_placeAt) B.pre
  have hts : ∀ w ∈ WG, w.before _ s = true := fun w hw => hts0 w (List.mem_cons_of_mem _ hw)
  have hown : s.vm.findClass "PlaceMoves" = some m.cls := findClass_of_methodNamed B.named
  have hlocks := B.notSynchronized
  have C : CX "PlaceMoves" prog_1_method_27_code p s m _ c G cI cZ := ⟨hx, hb, hown, hts, hK⟩
  have hl := lv_entry ([.ref (ad 0), .int a1, .int a2]) (n := 6) (Nat.le_of_ble_eq_true rfl)
  rw [lg_entry_eq]
  generalize (lg_sl ([.ref (ad 0), .int a1, .int a2]) ++ List.replicate (6 - (lg_sl ([.ref (ad 0), .int a1, .int a2])).length) Slot.unset).toArray = ls at hl ⊢
  have hl : lv_has ls 6 [(0, .ref (ad 0)), (1, .int a1), (2, .int a2)] := hl
  unfold f_PM_placeAt at h
  refine lv_iload_n hx hb d_PM_placeAt_0 rfl (lv_at hl 1 rfl) ?_
  refine lv_istore_n (lv' := [(3, .int a1), (0, .ref (ad 0)), (1, .int a1), (2, .int a2)]) hx hb d_PM_placeAt_1 rfl hl (by decide) rfl (fun ls hl => ?_)
  refine lv_iconst (v := 0) hx hb d_PM_placeAt_2 (by decide) ?_
  refine lv_istore (lv' := [(4, .int 0), (3, .int a1), (0, .ref (ad 0)), (1, .int a1), (2, .int a2)]) hx hb d_PM_placeAt_3 hl (by decide) rfl (fun ls hl => ?_)
  have k5 : ∀ (n5 : Nat) (x2 : Int32) (x3 : Int32) (x4 : Int32) (h : L_PM_placeAt_5 σ n5 x2 x3 x4 = some out) (ls : Array Slot) (hl : lv_has ls 6 [(0, .ref (ad 0)), (2, .int x2), (3, .int x3), (4, .int x4)]), W p l e (headSpec wl_PM_placeAt ({ frames := 2, cells := 0, slots := 0, locals := 45 } : Room)).room s m (([.ref (ad 0), .int a1, .int a2] : List Value).toArray) below meth c s.heap [] 0 0 (MQ below (vp_Si (fun r => r = out)) (([.ref (ad 0), .int a1, .int a2] : List Value).toArray) s 0 0 (fun _ => False)) (F0 m 5 ls []) := by
    intro n5
    induction n5 with
    | zero =>
      intro x2 x3 x4 h
      exact absurd h (by intro z; cases z)
    | succ n5 ih5 =>
      intro x2 x3 x4 h ls hl
      replace h : B_PM_placeAt_5 σ (L_PM_placeAt_5 σ n5) x2 x3 x4 = some out := h
      unfold B_PM_placeAt_5 at h
      refine lv_iload hx hb d_PM_placeAt_5 (lv_at hl 3 rfl) ?_
      refine lv_bipush (v := 20) hx hb d_PM_placeAt_7 (by decide) ?_
      refine lv_icmp_ge (tgt := 86) hx hb d_PM_placeAt_9 (by decide) (fun c1 => ?_) (fun c1 => ?_)
      · rw [if_pos c1] at h
        refine lv_iconst (v := (-1)) hx hb d_PM_placeAt_86 (by decide) ?_
        exact W.iret hx hb hr (fun t ht _ => ⟨_, rfl, Option.some.inj h, ht⟩) (fun _ hq => nomatch hq) d_PM_placeAt_87
      · rw [if_neg c1] at h
        refine lv_aload_n hx hb d_PM_placeAt_12 rfl (lv_at hl 0 rfl) ?_
        refine gf_PM_26 C hP d_PM_placeAt_13 ?_
        refine lv_iload_n hx hb d_PM_placeAt_16 rfl (lv_at hl 2 rfl) ?_
        refine lv_iload_n hx hb d_PM_placeAt_17 rfl (lv_at hl 1 rfl) ?_
        obtain ⟨r2, g_r2, h⟩ := ob_some h
        refine cl_PM_123 (rest := []) C (hml.trans hl.1.symm) hP g_r2 ⟨Nat.le_of_ble_eq_true rfl, Nat.le_of_ble_eq_true rfl⟩ (Nat.le_of_ble_eq_true rfl) d_PM_placeAt_18 ⟨Nat.zero_le _, Nat.zero_le _⟩ ?_
        refine lv_istore (lv' := [(5, .int r2), (0, .ref (ad 0)), (2, .int x2), (3, .int x3), (4, .int x4)]) hx hb d_PM_placeAt_21 hl (by decide) rfl (fun ls hl => ?_)
        refine lv_iload hx hb d_PM_placeAt_23 (lv_at hl 0 rfl) ?_
        refine lv_iconst (v := (-1)) hx hb d_PM_placeAt_25 (by decide) ?_
        refine lv_icmp_eq (tgt := 43) hx hb d_PM_placeAt_26 (by decide) (fun c3 => ?_) (fun c3 => ?_)
        · rw [if_pos c3] at h
          refine lv_iconst (v := (-1)) hx hb d_PM_placeAt_43 (by decide) ?_
          exact W.iret hx hb hr (fun t ht _ => ⟨_, rfl, Option.some.inj h, ht⟩) (fun _ hq => nomatch hq) d_PM_placeAt_44
        · rw [if_neg c3] at h
          refine lv_aload_n hx hb d_PM_placeAt_29 rfl (lv_at hl 1 rfl) ?_
          refine gf_PM_26 C hP d_PM_placeAt_30 ?_
          refine gf_PM_126 C hP d_PM_placeAt_33 ?_
          refine lv_iload hx hb d_PM_placeAt_36 (lv_at hl 0 rfl) ?_
          obtain ⟨hin, h⟩ := gd_some h
          refine al_19 C hP hin d_PM_placeAt_38 ?_
          refine lv_iconst (v := 2) hx hb d_PM_placeAt_39 (by decide) ?_
          refine lv_icmp_ne (tgt := 45) hx hb d_PM_placeAt_40 (by decide) (fun c4 => ?_) (fun c4 => ?_)
          · rw [if_neg c4] at h
            refine lv_aload_n hx hb d_PM_placeAt_45 rfl (lv_at hl 1 rfl) ?_
            refine gf_PM_26 C hP d_PM_placeAt_46 ?_
            refine gf_PM_126 C hP d_PM_placeAt_49 ?_
            refine lv_iload hx hb d_PM_placeAt_52 (lv_at hl 0 rfl) ?_
            obtain ⟨hin, h⟩ := gd_some h
            refine al_19 C hP hin d_PM_placeAt_54 ?_
            refine lv_if_ne (tgt := 69) hx hb d_PM_placeAt_55 (by decide) (fun c5 => ?_) (fun c5 => ?_)
            · rw [if_neg c5] at h
              refine lv_aload_n hx hb d_PM_placeAt_69 rfl (lv_at hl 1 rfl) ?_
              refine gf_PM_26 C hP d_PM_placeAt_70 ?_
              refine gf_PM_141 C hP d_PM_placeAt_73 ?_
              refine lv_iload hx hb d_PM_placeAt_76 (lv_at hl 0 rfl) ?_
              obtain ⟨hin, h⟩ := gd_some h
              refine al_20 C hP hin d_PM_placeAt_78 ?_
              obtain ⟨y6, e_y6, h⟩ := lt1_some h
              refine W.eq (g2 := F0 m 79 ls (.int y6 :: [])) (by rw [e_y6]) ?_
              refine lv_istore_n (lv' := [(3, .int y6), (5, .int r2), (0, .ref (ad 0)), (2, .int x2), (4, .int x4)]) hx hb d_PM_placeAt_79 rfl hl (by decide) rfl (fun ls hl => ?_)
              refine lv_iinc (v := x4 + 1) (lv' := [(4, .int (x4 + 1)), (3, .int y6), (5, .int r2), (0, .ref (ad 0)), (2, .int x2)]) hx hb d_PM_placeAt_80 hl (k := 4) rfl rfl (by decide) rfl (fun ls hl => ?_)
              refine lv_goto (tgt := 5) hx hb d_PM_placeAt_83 (by decide) ?_
              exact ih5 x2 y6 (x4 + 1) h _ (lv_sub hl [3, 4, 1, 0] rfl)
            · rw [if_pos c5] at h
              refine lv_aload_n hx hb d_PM_placeAt_58 rfl (lv_at hl 1 rfl) ?_
              refine gf_PM_26 C hP d_PM_placeAt_59 ?_
              refine gf_PM_141 C hP d_PM_placeAt_62 ?_
              refine lv_iload hx hb d_PM_placeAt_65 (lv_at hl 0 rfl) ?_
              obtain ⟨hin, h⟩ := gd_some h
              refine al_20 C hP hin d_PM_placeAt_67 ?_
              exact W.iret hx hb hr (fun t ht _ => ⟨_, rfl, Option.some.inj h, ht⟩) (fun _ hq => nomatch hq) d_PM_placeAt_68
          · rw [if_pos c4] at h
            refine lv_iconst (v := (-1)) hx hb d_PM_placeAt_43 (by decide) ?_
            exact W.iret hx hb hr (fun t ht _ => ⟨_, rfl, Option.some.inj h, ht⟩) (fun _ hq => nomatch hq) d_PM_placeAt_44
  exact k5 _ a2 a1 0 h _ (lv_sub hl [2, 4, 1, 0] rfl)
section RC
variable {p : Program} {l : Launch} {e : Env} {R : Room} {s : State} {m : MethodId} {args : Array Value} {below : List Frame} {meth : Method} {c : Code} {H : Heap} {locs : List Loc} {cells slots : Nat} {Q : State → Prop}
variable {cc : ByteArray} {pc : Nat} {ls : Array Slot} {rest : List Value} {G : va_G} {ad : Nat → Nat} {cI cZ : ClassId} {σ : Sg} {own : String}
theorem cl_PM_105 (C : CX "PlaceMoves" cc p s m args c G cI cZ) (hml : c.maxLocals = ls.size) (hP : va_P G clX (wX ad cI cZ σ) H) {x1 : Int32} {x2 : Int32} {r : Int32} (hg : f_PM_placeAt σ x1 x2 = some r) (hR : 2 + 1 ≤ R.frames ∧ 8 + (6 + 11) + 45 ≤ R.locals) (hrest : (rest.map fun v => v.category).sum ≤ 8) (hd : decode cc pc = .ok (.invokevirtual 105, 3)) (hcs : cells + 0 ≤ R.cells ∧ slots + 0 ≤ R.slots) (kk : W p l e R s m args below meth c H locs cells slots Q (F0 m (pc + 3) ls (.int r :: rest))) : W p l e R s m args below meth c H locs cells slots Q (F0 m pc ls (.int x2 :: .int x1 :: .ref (ad 0) :: rest)) :=
  vp_callSi (W.runV (As := [.int x1, .int x2]) (rest := rest) ⟨C.1, C.2.1, hml, C.2.2.1, C.2.2.2.1⟩ (c_PM_placeAt l G ad cI cZ σ x1 x2 r hg) (cwV 2 C.2.2.2.1 (wg_V w_395 w_397 ws_5 w_1 w_398) rfl rfl rfl (by decide +kernel) hR) ⟨PcX.blind, va_recv C.2.2.2.2.1 hP (ci := 0) (q0 := 0) rfl rfl, fun U hU hW => ⟨rfl, by rw [hU]; exact hP, C.2.2.2.2.warm hW⟩⟩ rfl rfl rfl rfl (lv_room hrest) hd hcs) (fun r' e => by subst e; exact kk)
end RC
abbrev wl_QuietTimes_covers : List Cond := .code ⟨"PlaceMoves$QuietTimes", "covers", "(II)Z"⟩ prog_5_method_3_code 3 (some FieldType.boolean) :: WG
set_option maxHeartbeats 4000000 in
set_option maxRecDepth 100000 in
theorem c_QuietTimes_covers (l : Launch) (G : va_G) (ad : Nat → Nat) (cI cZ : ClassId) (σ : Sg) (a1 : Int32) (a2 : Int32) (out : Int32) (h : f_QuietTimes_covers σ a1 a2 = some out) : Met l ⟨"PlaceMoves$QuietTimes", "covers", "(II)Z"⟩ wl_QuietTimes_covers ({ frames := 0, cells := 0, slots := 0, locals := 0 } : Room) (PcX G ad cI cZ σ [.ref (ad 6), .int a1, .int a2]) (vp_Si (fun r => r = out)) 0 0 (fun _ => False) := by
  refine Met.ofW (cc := prog_5_method_3_code) (maxL := 3) (ret := (some FieldType.boolean)) (by decide) rfl ?_
  intro p e s m args below meth c s₁ B hml hv
  obtain ⟨rfl, hP, hK⟩ := hv
  have hx := B.exec
  have hb := B.bytes
  have hr := B.returns
  have hts0 := atoms_spec (ws := wl_QuietTimes_covers) B.pre
  have hts : ∀ w ∈ WG, w.before _ s = true := fun w hw => hts0 w (List.mem_cons_of_mem _ hw)
  have hown : s.vm.findClass "PlaceMoves$QuietTimes" = some m.cls := findClass_of_methodNamed B.named
  have hlocks := B.notSynchronized
  have C : CX "PlaceMoves$QuietTimes" prog_5_method_3_code p s m _ c G cI cZ := ⟨hx, hb, hown, hts, hK⟩
  have hl := lv_entry ([.ref (ad 6), .int a1, .int a2]) (n := 3) (Nat.le_of_ble_eq_true rfl)
  rw [lg_entry_eq]
  generalize (lg_sl ([.ref (ad 6), .int a1, .int a2]) ++ List.replicate (3 - (lg_sl ([.ref (ad 6), .int a1, .int a2])).length) Slot.unset).toArray = ls at hl ⊢
  have hl : lv_has ls 3 [(0, .ref (ad 6)), (1, .int a1), (2, .int a2)] := hl
  unfold f_QuietTimes_covers at h
  refine lv_aload_n hx hb d_QuietTimes_covers_0 rfl (lv_at hl 0 rfl) ?_
  refine gf_QuietTimes_15 C hP d_QuietTimes_covers_1 ?_
  refine lv_iload_n hx hb d_QuietTimes_covers_4 rfl (lv_at hl 1 rfl) ?_
  obtain ⟨hin, h⟩ := gd_some h
  refine al_30 C hP hin d_QuietTimes_covers_5 ?_
  refine lv_iload_n hx hb d_QuietTimes_covers_6 rfl (lv_at hl 2 rfl) ?_
  refine lv_icmp_gt (tgt := 24) hx hb d_QuietTimes_covers_7 (by decide) (fun c1 => ?_) (fun c1 => ?_)
  · rw [if_pos c1] at h
    refine lv_iconst (v := 0) hx hb d_QuietTimes_covers_24 (by decide) ?_
    exact W.zret hx hb hr rfl (fun t ht _ => ⟨_, rfl, Option.some.inj h, ht⟩) (fun _ hq => nomatch hq) d_QuietTimes_covers_25
  · rw [if_neg c1] at h
    refine lv_iload_n hx hb d_QuietTimes_covers_10 rfl (lv_at hl 2 rfl) ?_
    refine lv_aload_n hx hb d_QuietTimes_covers_11 rfl (lv_at hl 0 rfl) ?_
    refine gf_QuietTimes_18 C hP d_QuietTimes_covers_12 ?_
    refine lv_iload_n hx hb d_QuietTimes_covers_15 rfl (lv_at hl 1 rfl) ?_
    obtain ⟨hin, h⟩ := gd_some h
    refine al_31 C hP hin d_QuietTimes_covers_16 ?_
    refine lv_icmp_gt (tgt := 24) hx hb d_QuietTimes_covers_17 (by decide) (fun c2 => ?_) (fun c2 => ?_)
    · rw [if_pos c2] at h
      refine lv_iconst (v := 0) hx hb d_QuietTimes_covers_24 (by decide) ?_
      exact W.zret hx hb hr rfl (fun t ht _ => ⟨_, rfl, Option.some.inj h, ht⟩) (fun _ hq => nomatch hq) d_QuietTimes_covers_25
    · rw [if_neg c2] at h
      refine lv_iconst (v := 1) hx hb d_QuietTimes_covers_20 (by decide) ?_
      refine lv_goto (tgt := 25) hx hb d_QuietTimes_covers_21 (by decide) ?_
      exact W.zret hx hb hr rfl (fun t ht _ => ⟨_, rfl, Option.some.inj h, ht⟩) (fun _ hq => nomatch hq) d_QuietTimes_covers_25
section RC
variable {p : Program} {l : Launch} {e : Env} {R : Room} {s : State} {m : MethodId} {args : Array Value} {below : List Frame} {meth : Method} {c : Code} {H : Heap} {locs : List Loc} {cells slots : Nat} {Q : State → Prop}
variable {cc : ByteArray} {pc : Nat} {ls : Array Slot} {rest : List Value} {G : va_G} {ad : Nat → Nat} {cI cZ : ClassId} {σ : Sg} {own : String}
theorem cl_PM_213 (C : CX "PlaceMoves" cc p s m args c G cI cZ) (hml : c.maxLocals = ls.size) (hP : va_P G clX (wX ad cI cZ σ) H) {x1 : Int32} {x2 : Int32} {r : Int32} (hg : f_QuietTimes_covers σ x1 x2 = some r) (hR : 0 + 1 ≤ R.frames ∧ 8 + (3 + 11) + 0 ≤ R.locals) (hrest : (rest.map fun v => v.category).sum ≤ 8) (hd : decode cc pc = .ok (.invokevirtual 213, 3)) (hcs : cells + 0 ≤ R.cells ∧ slots + 0 ≤ R.slots) (kk : W p l e R s m args below meth c H locs cells slots Q (F0 m (pc + 3) ls (.int r :: rest))) : W p l e R s m args below meth c H locs cells slots Q (F0 m pc ls (.int x2 :: .int x1 :: .ref (ad 6) :: rest)) :=
  vp_callSi (W.runV (As := [.int x1, .int x2]) (rest := rest) ⟨C.1, C.2.1, hml, C.2.2.1, C.2.2.2.1⟩ (c_QuietTimes_covers l G ad cI cZ σ x1 x2 r hg) (cwV 2 C.2.2.2.1 (wg_V w_410 w_411 w_412 w_7 w_413) rfl rfl rfl (by decide +kernel) hR) ⟨PcX.blind, va_recv C.2.2.2.2.1 hP (ci := 6) (q0 := 6) rfl rfl, fun U hU hW => ⟨rfl, by rw [hU]; exact hP, C.2.2.2.2.warm hW⟩⟩ rfl rfl rfl rfl (lv_room hrest) hd hcs) (fun r' e => by subst e; exact kk)
end RC
abbrev wl_Places_liesIn : List Cond := .code ⟨"PlaceMoves$Places", "liesIn", "(II)Z"⟩ prog_3_method_4_code 3 (some FieldType.boolean) :: WG
set_option maxHeartbeats 4000000 in
set_option maxRecDepth 100000 in
theorem c_Places_liesIn (l : Launch) (G : va_G) (ad : Nat → Nat) (cI cZ : ClassId) (σ : Sg) (a1 : Int32) (a2 : Int32) (out : Int32) (h : f_Places_liesIn σ a1 a2 = some out) : Met l ⟨"PlaceMoves$Places", "liesIn", "(II)Z"⟩ wl_Places_liesIn ({ frames := 1, cells := 0, slots := 0, locals := 21 } : Room) (PcX G ad cI cZ σ [.ref (ad 1), .int a1, .int a2]) (vp_Si (fun r => r = out)) 0 0 (fun _ => False) := by
  refine Met.ofW (cc := prog_3_method_4_code) (maxL := 3) (ret := (some FieldType.boolean)) (by decide) rfl ?_
  intro p e s m args below meth c s₁ B hml hv
  obtain ⟨rfl, hP, hK⟩ := hv
  have hx := B.exec
  have hb := B.bytes
  have hr := B.returns
  have hts0 := atoms_spec (ws := wl_Places_liesIn) B.pre
  have hts : ∀ w ∈ WG, w.before _ s = true := fun w hw => hts0 w (List.mem_cons_of_mem _ hw)
  have hown : s.vm.findClass "PlaceMoves$Places" = some m.cls := findClass_of_methodNamed B.named
  have hlocks := B.notSynchronized
  have C : CX "PlaceMoves$Places" prog_3_method_4_code p s m _ c G cI cZ := ⟨hx, hb, hown, hts, hK⟩
  have hl := lv_entry ([.ref (ad 1), .int a1, .int a2]) (n := 3) (Nat.le_of_ble_eq_true rfl)
  rw [lg_entry_eq]
  generalize (lg_sl ([.ref (ad 1), .int a1, .int a2]) ++ List.replicate (3 - (lg_sl ([.ref (ad 1), .int a1, .int a2])).length) Slot.unset).toArray = ls at hl ⊢
  have hl : lv_has ls 3 [(0, .ref (ad 1)), (1, .int a1), (2, .int a2)] := hl
  unfold f_Places_liesIn at h
  refine lv_aload_n hx hb d_Places_liesIn_0 rfl (lv_at hl 0 rfl) ?_
  refine lv_iload_n hx hb d_Places_liesIn_1 rfl (lv_at hl 1 rfl) ?_
  obtain ⟨r1, g_r1, h⟩ := ob_some h
  refine cl_Places_22 (rest := []) C (hml.trans hl.1.symm) hP g_r1 ⟨Nat.le_of_ble_eq_true rfl, Nat.le_of_ble_eq_true rfl⟩ (Nat.le_of_ble_eq_true rfl) d_Places_liesIn_2 ⟨Nat.zero_le _, Nat.zero_le _⟩ ?_
  refine lv_iload_n hx hb d_Places_liesIn_5 rfl (lv_at hl 2 rfl) ?_
  refine lv_iushr (v := ush r1 a2) hx hb d_Places_liesIn_6 rfl ?_
  refine lv_iconst (v := 1) hx hb d_Places_liesIn_7 (by decide) ?_
  refine lv_iand hx hb d_Places_liesIn_8 ?_
  refine lv_iconst (v := 1) hx hb d_Places_liesIn_9 (by decide) ?_
  refine lv_icmp_ne (tgt := 17) hx hb d_Places_liesIn_10 (by decide) (fun c2 => ?_) (fun c2 => ?_)
  · rw [if_neg c2] at h
    refine lv_iconst (v := 0) hx hb d_Places_liesIn_17 (by decide) ?_
    exact W.zret hx hb hr rfl (fun t ht _ => ⟨_, rfl, Option.some.inj h, ht⟩) (fun _ hq => nomatch hq) d_Places_liesIn_18
  · rw [if_pos c2] at h
    refine lv_iconst (v := 1) hx hb d_Places_liesIn_13 (by decide) ?_
    refine lv_goto (tgt := 18) hx hb d_Places_liesIn_14 (by decide) ?_
    exact W.zret hx hb hr rfl (fun t ht _ => ⟨_, rfl, Option.some.inj h, ht⟩) (fun _ hq => nomatch hq) d_Places_liesIn_18
section RC
variable {p : Program} {l : Launch} {e : Env} {R : Room} {s : State} {m : MethodId} {args : Array Value} {below : List Frame} {meth : Method} {c : Code} {H : Heap} {locs : List Loc} {cells slots : Nat} {Q : State → Prop}
variable {cc : ByteArray} {pc : Nat} {ls : Array Slot} {rest : List Value} {G : va_G} {ad : Nat → Nat} {cI cZ : ClassId} {σ : Sg} {own : String}
theorem cl_PM_216 (C : CX "PlaceMoves" cc p s m args c G cI cZ) (hml : c.maxLocals = ls.size) (hP : va_P G clX (wX ad cI cZ σ) H) {x1 : Int32} {x2 : Int32} {r : Int32} (hg : f_Places_liesIn σ x1 x2 = some r) (hR : 1 + 1 ≤ R.frames ∧ 8 + (3 + 11) + 21 ≤ R.locals) (hrest : (rest.map fun v => v.category).sum ≤ 8) (hd : decode cc pc = .ok (.invokevirtual 216, 3)) (hcs : cells + 0 ≤ R.cells ∧ slots + 0 ≤ R.slots) (kk : W p l e R s m args below meth c H locs cells slots Q (F0 m (pc + 3) ls (.int r :: rest))) : W p l e R s m args below meth c H locs cells slots Q (F0 m pc ls (.int x2 :: .int x1 :: .ref (ad 1) :: rest)) :=
  vp_callSi (W.runV (As := [.int x1, .int x2]) (rest := rest) ⟨C.1, C.2.1, hml, C.2.2.1, C.2.2.2.1⟩ (c_Places_liesIn l G ad cI cZ σ x1 x2 r hg) (cwV 2 C.2.2.2.1 (wg_V w_414 w_415 w_416 w_2 w_417) rfl rfl rfl (by decide +kernel) hR) ⟨PcX.blind, va_recv C.2.2.2.2.1 hP (ci := 1) (q0 := 1) rfl rfl, fun U hU hW => ⟨rfl, by rw [hU]; exact hP, C.2.2.2.2.warm hW⟩⟩ rfl rfl rfl rfl (lv_room hrest) hd hcs) (fun r' e => by subst e; exact kk)
end RC
abbrev wl_PM_isBarred : List Cond := .code ⟨"PlaceMoves", "isBarred", "(III)Z"⟩ prog_1_method_30_code 6 (some FieldType.boolean) :: WG
set_option maxHeartbeats 4000000 in
set_option maxRecDepth 100000 in
theorem c_PM_isBarred (l : Launch) (G : va_G) (ad : Nat → Nat) (cI cZ : ClassId) (σ : Sg) (a1 : Int32) (a2 : Int32) (a3 : Int32) (out : Int32) (h : f_PM_isBarred σ a1 a2 a3 = some out) : Met l ⟨"PlaceMoves", "isBarred", "(III)Z"⟩ wl_PM_isBarred ({ frames := 2, cells := 0, slots := 0, locals := 43 } : Room) (PcX G ad cI cZ σ [.ref (ad 0), .int a1, .int a2, .int a3]) (vp_Si (fun r => r = out)) 0 0 (fun _ => False) := by
  refine Met.ofW (cc := prog_1_method_30_code) (maxL := 6) (ret := (some FieldType.boolean)) (by decide) rfl ?_
  intro p e s m args below meth c s₁ B hml hv
  obtain ⟨rfl, hP, hK⟩ := hv
  have hx := B.exec
  have hb := B.bytes
  have hr := B.returns
  have hts0 := atoms_spec (ws := wl_PM_isBarred) B.pre
  have hts : ∀ w ∈ WG, w.before _ s = true := fun w hw => hts0 w (List.mem_cons_of_mem _ hw)
  have hown : s.vm.findClass "PlaceMoves" = some m.cls := findClass_of_methodNamed B.named
  have hlocks := B.notSynchronized
  have C : CX "PlaceMoves" prog_1_method_30_code p s m _ c G cI cZ := ⟨hx, hb, hown, hts, hK⟩
  have hl := lv_entry ([.ref (ad 0), .int a1, .int a2, .int a3]) (n := 6) (Nat.le_of_ble_eq_true rfl)
  rw [lg_entry_eq]
  generalize (lg_sl ([.ref (ad 0), .int a1, .int a2, .int a3]) ++ List.replicate (6 - (lg_sl ([.ref (ad 0), .int a1, .int a2, .int a3])).length) Slot.unset).toArray = ls at hl ⊢
  have hl : lv_has ls 6 [(0, .ref (ad 0)), (1, .int a1), (2, .int a2), (3, .int a3)] := hl
  unfold f_PM_isBarred at h
  refine lv_iconst (v := 0) hx hb d_PM_isBarred_0 (by decide) ?_
  refine lv_istore (lv' := [(4, .int 0), (0, .ref (ad 0)), (1, .int a1), (2, .int a2), (3, .int a3)]) hx hb d_PM_isBarred_1 hl (by decide) rfl (fun ls hl => ?_)
  have k3 : ∀ (n3 : Nat) (x1 : Int32) (x2 : Int32) (x3 : Int32) (x4 : Int32) (h : L_PM_isBarred_3 σ n3 x1 x2 x3 x4 = some out) (ls : Array Slot) (hl : lv_has ls 6 [(0, .ref (ad 0)), (1, .int x1), (2, .int x2), (3, .int x3), (4, .int x4)]), W p l e (headSpec wl_PM_isBarred ({ frames := 2, cells := 0, slots := 0, locals := 43 } : Room)).room s m (([.ref (ad 0), .int a1, .int a2, .int a3] : List Value).toArray) below meth c s.heap [] 0 0 (MQ below (vp_Si (fun r => r = out)) (([.ref (ad 0), .int a1, .int a2, .int a3] : List Value).toArray) s 0 0 (fun _ => False)) (F0 m 3 ls []) := by
    intro n3
    induction n3 with
    | zero =>
      intro x1 x2 x3 x4 h
      exact absurd h (by intro z; cases z)
    | succ n3 ih3 =>
      intro x1 x2 x3 x4 h ls hl
      replace h : B_PM_isBarred_3 σ (L_PM_isBarred_3 σ n3) x1 x2 x3 x4 = some out := h
      unfold B_PM_isBarred_3 at h
      refine lv_iload hx hb d_PM_isBarred_3 (lv_at hl 4 rfl) ?_
      refine lv_aload_n hx hb d_PM_isBarred_5 rfl (lv_at hl 0 rfl) ?_
      refine gf_PM_47 C hP d_PM_isBarred_6 ?_
      refine gf_PM_183 C hP d_PM_isBarred_9 ?_
      refine lv_icmp_ge (tgt := 71) hx hb d_PM_isBarred_12 (by decide) (fun c1 => ?_) (fun c1 => ?_)
      · rw [if_pos c1] at h
        refine lv_iconst (v := 0) hx hb d_PM_isBarred_71 (by decide) ?_
        exact W.zret hx hb hr rfl (fun t ht _ => ⟨_, rfl, Option.some.inj h, ht⟩) (fun _ hq => nomatch hq) d_PM_isBarred_72
      · rw [if_neg c1] at h
        refine lv_aload_n hx hb d_PM_isBarred_15 rfl (lv_at hl 0 rfl) ?_
        refine gf_PM_47 C hP d_PM_isBarred_16 ?_
        refine gf_PM_210 C hP d_PM_isBarred_19 ?_
        refine lv_iload hx hb d_PM_isBarred_22 (lv_at hl 4 rfl) ?_
        obtain ⟨hin, h⟩ := gd_some h
        refine al_29 C hP hin d_PM_isBarred_24 ?_
        obtain ⟨y2, e_y2, h⟩ := lt1_some h
        refine W.eq (g2 := F0 m 25 ls (.int y2 :: [])) (by rw [e_y2]) ?_
        refine lv_istore (lv' := [(5, .int y2), (0, .ref (ad 0)), (1, .int x1), (2, .int x2), (3, .int x3), (4, .int x4)]) hx hb d_PM_isBarred_25 hl (by decide) rfl (fun ls hl => ?_)
        refine lv_aload_n hx hb d_PM_isBarred_27 rfl (lv_at hl 1 rfl) ?_
        refine gf_PM_47 C hP d_PM_isBarred_28 ?_
        refine lv_iload hx hb d_PM_isBarred_31 (lv_at hl 5 rfl) ?_
        refine lv_iload_n hx hb d_PM_isBarred_33 rfl (lv_at hl 4 rfl) ?_
        obtain ⟨r3, g_r3, h⟩ := ob_some h
        refine cl_PM_213 (rest := []) C (hml.trans hl.1.symm) hP g_r3 ⟨Nat.le_of_ble_eq_true rfl, Nat.le_of_ble_eq_true rfl⟩ (Nat.le_of_ble_eq_true rfl) d_PM_isBarred_34 ⟨Nat.zero_le _, Nat.zero_le _⟩ ?_
        refine lv_if_eq (tgt := 65) hx hb d_PM_isBarred_37 (by decide) (fun c4 => ?_) (fun c4 => ?_)
        · rw [if_pos c4] at h
          refine lv_iinc (v := x4 + 1) (lv' := [(4, .int (x4 + 1)), (5, .int y2), (0, .ref (ad 0)), (1, .int x1), (2, .int x2), (3, .int x3)]) hx hb d_PM_isBarred_65 hl (k := 5) rfl rfl (by decide) rfl (fun ls hl => ?_)
          refine lv_goto (tgt := 3) hx hb d_PM_isBarred_68 (by decide) ?_
          exact ih3 x1 x2 x3 (x4 + 1) h _ (lv_sub hl [2, 3, 4, 5, 0] rfl)
        · rw [if_neg c4] at h
          refine lv_aload_n hx hb d_PM_isBarred_40 rfl (lv_at hl 1 rfl) ?_
          refine gf_PM_10 C hP d_PM_isBarred_41 ?_
          refine lv_iload_n hx hb d_PM_isBarred_44 rfl (lv_at hl 2 rfl) ?_
          refine lv_iload hx hb d_PM_isBarred_45 (lv_at hl 0 rfl) ?_
          obtain ⟨r5, g_r5, h⟩ := ob_some h
          refine cl_PM_216 (rest := []) C (hml.trans hl.1.symm) hP g_r5 ⟨Nat.le_of_ble_eq_true rfl, Nat.le_of_ble_eq_true rfl⟩ (Nat.le_of_ble_eq_true rfl) d_PM_isBarred_47 ⟨Nat.zero_le _, Nat.zero_le _⟩ ?_
          refine lv_aload_n hx hb d_PM_isBarred_50 rfl (lv_at hl 1 rfl) ?_
          refine gf_PM_10 C hP d_PM_isBarred_51 ?_
          refine lv_iload_n hx hb d_PM_isBarred_54 rfl (lv_at hl 3 rfl) ?_
          refine lv_iload hx hb d_PM_isBarred_55 (lv_at hl 0 rfl) ?_
          obtain ⟨r6, g_r6, h⟩ := ob_some h
          refine cl_PM_216 (rest := [.int r5]) C (hml.trans hl.1.symm) hP g_r6 ⟨Nat.le_of_ble_eq_true rfl, Nat.le_of_ble_eq_true rfl⟩ (Nat.le_of_ble_eq_true rfl) d_PM_isBarred_57 ⟨Nat.zero_le _, Nat.zero_le _⟩ ?_
          refine lv_icmp_eq (tgt := 65) hx hb d_PM_isBarred_60 (by decide) (fun c7 => ?_) (fun c7 => ?_)
          · rw [if_pos c7] at h
            refine lv_iinc (v := x4 + 1) (lv' := [(4, .int (x4 + 1)), (5, .int y2), (0, .ref (ad 0)), (1, .int x1), (2, .int x2), (3, .int x3)]) hx hb d_PM_isBarred_65 hl (k := 5) rfl rfl (by decide) rfl (fun ls hl => ?_)
            refine lv_goto (tgt := 3) hx hb d_PM_isBarred_68 (by decide) ?_
            exact ih3 x1 x2 x3 (x4 + 1) h _ (lv_sub hl [2, 3, 4, 5, 0] rfl)
          · rw [if_neg c7] at h
            refine lv_iconst (v := 1) hx hb d_PM_isBarred_63 (by decide) ?_
            exact W.zret hx hb hr rfl (fun t ht _ => ⟨_, rfl, Option.some.inj h, ht⟩) (fun _ hq => nomatch hq) d_PM_isBarred_64
  exact k3 _ a1 a2 a3 0 h _ (lv_sub hl [1, 2, 3, 4, 0] rfl)
section RC
variable {p : Program} {l : Launch} {e : Env} {R : Room} {s : State} {m : MethodId} {args : Array Value} {below : List Frame} {meth : Method} {c : Code} {H : Heap} {locs : List Loc} {cells slots : Nat} {Q : State → Prop}
variable {cc : ByteArray} {pc : Nat} {ls : Array Slot} {rest : List Value} {G : va_G} {ad : Nat → Nat} {cI cZ : ClassId} {σ : Sg} {own : String}
theorem cl_PM_108 (C : CX "PlaceMoves" cc p s m args c G cI cZ) (hml : c.maxLocals = ls.size) (hP : va_P G clX (wX ad cI cZ σ) H) {x1 : Int32} {x2 : Int32} {x3 : Int32} {r : Int32} (hg : f_PM_isBarred σ x1 x2 x3 = some r) (hR : 2 + 1 ≤ R.frames ∧ 8 + (6 + 11) + 43 ≤ R.locals) (hrest : (rest.map fun v => v.category).sum ≤ 8) (hd : decode cc pc = .ok (.invokevirtual 108, 3)) (hcs : cells + 0 ≤ R.cells ∧ slots + 0 ≤ R.slots) (kk : W p l e R s m args below meth c H locs cells slots Q (F0 m (pc + 3) ls (.int r :: rest))) : W p l e R s m args below meth c H locs cells slots Q (F0 m pc ls (.int x3 :: .int x2 :: .int x1 :: .ref (ad 0) :: rest)) :=
  vp_callSi (W.runV (As := [.int x1, .int x2, .int x3]) (rest := rest) ⟨C.1, C.2.1, hml, C.2.2.1, C.2.2.2.1⟩ (c_PM_isBarred l G ad cI cZ σ x1 x2 x3 r hg) (cwV 3 C.2.2.2.1 (wg_V w_406 w_408 ws_6 w_1 w_409) rfl rfl rfl (by decide +kernel) hR) ⟨PcX.blind, va_recv C.2.2.2.2.1 hP (ci := 0) (q0 := 0) rfl rfl, fun U hU hW => ⟨rfl, by rw [hU]; exact hP, C.2.2.2.2.warm hW⟩⟩ rfl rfl rfl rfl (lv_room hrest) hd hcs) (fun r' e => by subst e; exact kk)
end RC
abbrev wl_Plans_covers : List Cond := .code ⟨"PlaceMoves$Plans", "covers", "(II)Z"⟩ prog_4_method_4_code 3 (some FieldType.boolean) :: WG
set_option maxHeartbeats 4000000 in
set_option maxRecDepth 100000 in
theorem c_Plans_covers (l : Launch) (G : va_G) (ad : Nat → Nat) (cI cZ : ClassId) (σ : Sg) (a1 : Int32) (a2 : Int32) (out : Int32) (h : f_Plans_covers σ a1 a2 = some out) : Met l ⟨"PlaceMoves$Plans", "covers", "(II)Z"⟩ wl_Plans_covers ({ frames := 0, cells := 0, slots := 0, locals := 0 } : Room) (PcX G ad cI cZ σ [.ref (ad 5), .int a1, .int a2]) (vp_Si (fun r => r = out)) 0 0 (fun _ => False) := by
  refine Met.ofW (cc := prog_4_method_4_code) (maxL := 3) (ret := (some FieldType.boolean)) (by decide) rfl ?_
  intro p e s m args below meth c s₁ B hml hv
  obtain ⟨rfl, hP, hK⟩ := hv
  have hx := B.exec
  have hb := B.bytes
  have hr := B.returns
  have hts0 := atoms_spec (ws := wl_Plans_covers) B.pre
  have hts : ∀ w ∈ WG, w.before _ s = true := fun w hw => hts0 w (List.mem_cons_of_mem _ hw)
  have hown : s.vm.findClass "PlaceMoves$Plans" = some m.cls := findClass_of_methodNamed B.named
  have hlocks := B.notSynchronized
  have C : CX "PlaceMoves$Plans" prog_4_method_4_code p s m _ c G cI cZ := ⟨hx, hb, hown, hts, hK⟩
  have hl := lv_entry ([.ref (ad 5), .int a1, .int a2]) (n := 3) (Nat.le_of_ble_eq_true rfl)
  rw [lg_entry_eq]
  generalize (lg_sl ([.ref (ad 5), .int a1, .int a2]) ++ List.replicate (3 - (lg_sl ([.ref (ad 5), .int a1, .int a2])).length) Slot.unset).toArray = ls at hl ⊢
  have hl : lv_has ls 3 [(0, .ref (ad 5)), (1, .int a1), (2, .int a2)] := hl
  unfold f_Plans_covers at h
  refine lv_aload_n hx hb d_Plans_covers_0 rfl (lv_at hl 0 rfl) ?_
  refine gf_Plans_18 C hP d_Plans_covers_1 ?_
  refine lv_iload_n hx hb d_Plans_covers_4 rfl (lv_at hl 1 rfl) ?_
  obtain ⟨hin, h⟩ := gd_some h
  refine al_27 C hP hin d_Plans_covers_5 ?_
  refine lv_iload_n hx hb d_Plans_covers_6 rfl (lv_at hl 2 rfl) ?_
  refine lv_icmp_gt (tgt := 24) hx hb d_Plans_covers_7 (by decide) (fun c1 => ?_) (fun c1 => ?_)
  · rw [if_pos c1] at h
    refine lv_iconst (v := 0) hx hb d_Plans_covers_24 (by decide) ?_
    exact W.zret hx hb hr rfl (fun t ht _ => ⟨_, rfl, Option.some.inj h, ht⟩) (fun _ hq => nomatch hq) d_Plans_covers_25
  · rw [if_neg c1] at h
    refine lv_iload_n hx hb d_Plans_covers_10 rfl (lv_at hl 2 rfl) ?_
    refine lv_aload_n hx hb d_Plans_covers_11 rfl (lv_at hl 0 rfl) ?_
    refine gf_Plans_21 C hP d_Plans_covers_12 ?_
    refine lv_iload_n hx hb d_Plans_covers_15 rfl (lv_at hl 1 rfl) ?_
    obtain ⟨hin, h⟩ := gd_some h
    refine al_28 C hP hin d_Plans_covers_16 ?_
    refine lv_icmp_gt (tgt := 24) hx hb d_Plans_covers_17 (by decide) (fun c2 => ?_) (fun c2 => ?_)
    · rw [if_pos c2] at h
      refine lv_iconst (v := 0) hx hb d_Plans_covers_24 (by decide) ?_
      exact W.zret hx hb hr rfl (fun t ht _ => ⟨_, rfl, Option.some.inj h, ht⟩) (fun _ hq => nomatch hq) d_Plans_covers_25
    · rw [if_neg c2] at h
      refine lv_iconst (v := 1) hx hb d_Plans_covers_20 (by decide) ?_
      refine lv_goto (tgt := 25) hx hb d_Plans_covers_21 (by decide) ?_
      exact W.zret hx hb hr rfl (fun t ht _ => ⟨_, rfl, Option.some.inj h, ht⟩) (fun _ hq => nomatch hq) d_Plans_covers_25
section RC
variable {p : Program} {l : Launch} {e : Env} {R : Room} {s : State} {m : MethodId} {args : Array Value} {below : List Frame} {meth : Method} {c : Code} {H : Heap} {locs : List Loc} {cells slots : Nat} {Q : State → Prop}
variable {cc : ByteArray} {pc : Nat} {ls : Array Slot} {rest : List Value} {G : va_G} {ad : Nat → Nat} {cI cZ : ClassId} {σ : Sg} {own : String}
theorem cl_PM_234 (C : CX "PlaceMoves" cc p s m args c G cI cZ) (hml : c.maxLocals = ls.size) (hP : va_P G clX (wX ad cI cZ σ) H) {x1 : Int32} {x2 : Int32} {r : Int32} (hg : f_Plans_covers σ x1 x2 = some r) (hR : 0 + 1 ≤ R.frames ∧ 8 + (3 + 11) + 0 ≤ R.locals) (hrest : (rest.map fun v => v.category).sum ≤ 8) (hd : decode cc pc = .ok (.invokevirtual 234, 3)) (hcs : cells + 0 ≤ R.cells ∧ slots + 0 ≤ R.slots) (kk : W p l e R s m args below meth c H locs cells slots Q (F0 m (pc + 3) ls (.int r :: rest))) : W p l e R s m args below meth c H locs cells slots Q (F0 m pc ls (.int x2 :: .int x1 :: .ref (ad 5) :: rest)) :=
  vp_callSi (W.runV (As := [.int x1, .int x2]) (rest := rest) ⟨C.1, C.2.1, hml, C.2.2.1, C.2.2.2.1⟩ (c_Plans_covers l G ad cI cZ σ x1 x2 r hg) (cwV 2 C.2.2.2.1 (wg_V w_439 w_440 w_441 w_6 w_442) rfl rfl rfl (by decide +kernel) hR) ⟨PcX.blind, va_recv C.2.2.2.2.1 hP (ci := 5) (q0 := 5) rfl rfl, fun U hU hW => ⟨rfl, by rw [hU]; exact hP, C.2.2.2.2.warm hW⟩⟩ rfl rfl rfl rfl (lv_room hrest) hd hcs) (fun r' e => by subst e; exact kk)
end RC
