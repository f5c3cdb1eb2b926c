abbrev wl_Rows_dropNewest : List Cond := .code ⟨"PlaceMoves$Rows", "dropNewest", "(I)V"⟩ prog_6_method_4_code 2 none :: WG
set_option maxHeartbeats 4000000 in
set_option maxRecDepth 100000 in
theorem c_Rows_dropNewest (l : Launch) (G : va_G) (ad : Nat → Nat) (cI cZ : ClassId) (hD : DX ad) (σ : Sg) (a1 : Int32) (out : Sg) (h : f_Rows_dropNewest σ a1 = some out) : Met l ⟨"PlaceMoves$Rows", "dropNewest", "(I)V"⟩ wl_Rows_dropNewest ({ frames := 0, cells := 0, slots := 0, locals := 0 } : Room) (PcX G ad cI cZ σ [.ref (ad 3), .int a1]) (QMv G ad cI cZ out) 0 0 (AX ad) := by
  refine Met.ofW (cc := prog_6_method_4_code) (maxL := 2) (ret := none) (by decide) rfl ?_
  intro p e s m args below meth c s₁ B hml hv
  obtain ⟨rfl, hP, hK⟩ := hv
  have hx := B.exec
  have hb := B.bytes
  have hr := B.returns
  have hts0 := atoms_spec (ws := wl_Rows_dropNewest) B.pre
  have hts : ∀ w ∈ WG, w.before _ s = true := fun w hw => hts0 w (List.mem_cons_of_mem _ hw)
  have hown : s.vm.findClass "PlaceMoves$Rows" = some m.cls := findClass_of_methodNamed B.named
  have hlocks := B.notSynchronized
  have C : CX "PlaceMoves$Rows" prog_6_method_4_code p s m _ c G cI cZ := ⟨hx, hb, hown, hts, hK⟩
  have hl := lv_entry ([.ref (ad 3), .int a1]) (n := 2) (Nat.le_of_ble_eq_true rfl)
  rw [lg_entry_eq]
  generalize (lg_sl ([.ref (ad 3), .int a1]) ++ List.replicate (2 - (lg_sl ([.ref (ad 3), .int a1])).length) Slot.unset).toArray = ls at hl ⊢
  have hl : lv_has ls 2 [(0, .ref (ad 3)), (1, .int a1)] := hl
  unfold f_Rows_dropNewest at h
  have hW : WS G ad cI cZ s σ s.heap [] := ⟨hP, va_S.rf⟩
  refine lv_aload_n hx hb d_Rows_dropNewest_0 rfl (lv_at hl 0 rfl) ?_
  refine gf_Rows_9 C hW.1 d_Rows_dropNewest_1 ?_
  refine lv_iload_n hx hb d_Rows_dropNewest_4 rfl (lv_at hl 1 rfl) ?_
  refine lv_dup2_11 hx hb d_Rows_dropNewest_5 rfl rfl ?_
  obtain ⟨hin, h⟩ := gd_some h
  refine al_17 C hW.1 hin d_Rows_dropNewest_6 ?_
  refine lv_iconst (v := 1) hx hb d_Rows_dropNewest_7 (by decide) ?_
  refine lv_isub hx hb d_Rows_dropNewest_8 ?_
  obtain ⟨hin, h⟩ := gd_some h
  refine as_17 C hD hW hin d_Rows_dropNewest_9 (fun H locs hW => ?_)
  obtain ⟨σ1, e_σ1, h⟩ := lt1_some h
  rw [← e_σ1] at hW
  refine lv_aload_n hx hb d_Rows_dropNewest_10 rfl (lv_at hl 0 rfl) ?_
  refine lv_dup hx hb d_Rows_dropNewest_11 rfl ?_
  refine gf_Rows_24 C hW.1 d_Rows_dropNewest_12 ?_
  refine lv_iconst (v := 1) hx hb d_Rows_dropNewest_15 (by decide) ?_
  refine lv_isub hx hb d_Rows_dropNewest_16 ?_
  refine pf_Rows_24 C hD hW d_Rows_dropNewest_17 (fun H locs hW => ?_)
  obtain ⟨σ2, e_σ2, h⟩ := lt1_some h
  rw [← e_σ2] at hW
  exact W.vret hx hb hr (fun t ht _ => qm_v h ht hW) hW.2.2.2 d_Rows_dropNewest_20
section RC
variable {p : Program} {l : Launch} {e : Env} {R : Room} {s : State} {m : MethodId} {args : Array Value} {below : List Frame} {meth : Method} {c : Code} {H : Heap} {locs : List Loc} {cells slots : Nat} {Q : State → Prop}
variable {cc : ByteArray} {pc : Nat} {ls : Array Slot} {rest : List Value} {G : va_G} {ad : Nat → Nat} {cI cZ : ClassId} {σ : Sg} {own : String}
theorem cl_PM_220 (C : CX "PlaceMoves" cc p s m args c G cI cZ) (hD : DX ad) (hml : c.maxLocals = ls.size) (hW : WS G ad cI cZ s σ H locs) {x1 : Int32} {r : Sg} (hg : f_Rows_dropNewest σ x1 = some r) (hR : 0 + 1 ≤ R.frames ∧ 8 + (2 + 11) + 0 ≤ R.locals) (hrest : (rest.map fun v => v.category).sum ≤ 8) (hd : decode cc pc = .ok (.invokevirtual 220, 3)) (hcs : cells + 0 ≤ R.cells ∧ slots + 0 ≤ R.slots) (kk : ∀ (H1 : Heap) (locs1 : List Loc), WS G ad cI cZ s (r) H1 locs1 → W p l e R s m args below meth c H1 locs1 cells slots Q (F0 m (pc + 3) ls rest)) : W p l e R s m args below meth c H locs cells slots Q (F0 m pc ls (.int x1 :: .ref (ad 3) :: rest)) :=
  va_callv (va_runV (As := [.int x1]) (rest := rest) ⟨C.1, C.2.1, hml, C.2.2.1, C.2.2.2.1⟩ (c_Rows_dropNewest l G ad cI cZ hD σ x1 r hg) (cwV 1 C.2.2.2.1 (wg_V w_447 w_448 w_449 w_4 w_450) rfl rfl rfl (by decide +kernel) hR) ⟨PcX.blind, va_recv C.2.2.2.2.1 hW.1 (ci := 3) (q0 := 3) rfl rfl, fun U hU hZ => ⟨rfl, by rw [hU]; exact hW.1, C.2.2.2.2.warm hZ⟩⟩ rfl rfl rfl rfl (lv_room hrest) hd hcs) hW.2 (fun _ _ z => z) (fun _ z => z) (fun u t H1 locs1 ht _ _ hB _ _ hS => kk H1 locs1 ⟨by rw [← ht]; exact hB, hS⟩)
end RC
abbrev wl_PM_comesByRow : List Cond := .code ⟨"PlaceMoves", "comesByRow", "(IIII)Z"⟩ prog_1_method_31_code 6 (some FieldType.boolean) :: WG
set_option maxHeartbeats 4000000 in
set_option maxRecDepth 100000 in
theorem c_PM_comesByRow (l : Launch) (G : va_G) (ad : Nat → Nat) (cI cZ : ClassId) (hD : DX ad) (σ : Sg) (a1 : Int32) (a2 : Int32) (a3 : Int32) (a4 : Int32) (out : Int32 × Sg) (h : f_PM_comesByRow σ a1 a2 a3 a4 = some out) : Met l ⟨"PlaceMoves", "comesByRow", "(IIII)Z"⟩ wl_PM_comesByRow ({ frames := 6, cells := 0, slots := 0, locals := 140 } : Room) (PcX G ad cI cZ σ [.ref (ad 0), .int a1, .int a2, .int a3, .int a4]) (QMi G ad cI cZ out) 0 0 (AX ad) := by
  refine Met.ofW (cc := prog_1_method_31_code) (maxL := 6) (ret := (some FieldType.boolean)) (by decide) rfl ?_
  intro p e s m args below meth c s₁ B hml hv
  obtain ⟨rfl, hP, hK⟩ := hv
  have hx := B.exec
  have hb := B.bytes
  have hr := B.returns
  have hts0 := atoms_spec (ws := wl_PM_comesByRow) B.pre
  have hts : ∀ w ∈ WG, w.before _ s = true := fun w hw => hts0 w (List.mem_cons_of_mem _ hw)
  have hown : s.vm.findClass "PlaceMoves" = some m.cls := findClass_of_methodNamed B.named
  have hlocks := B.notSynchronized
  have C : CX "PlaceMoves" prog_1_method_31_code p s m _ c G cI cZ := ⟨hx, hb, hown, hts, hK⟩
  have hl := lv_entry ([.ref (ad 0), .int a1, .int a2, .int a3, .int a4]) (n := 6) (Nat.le_of_ble_eq_true rfl)
  rw [lg_entry_eq]
  generalize (lg_sl ([.ref (ad 0), .int a1, .int a2, .int a3, .int a4]) ++ List.replicate (6 - (lg_sl ([.ref (ad 0), .int a1, .int a2, .int a3, .int a4])).length) Slot.unset).toArray = ls at hl ⊢
  have hl : lv_has ls 6 [(0, .ref (ad 0)), (1, .int a1), (2, .int a2), (3, .int a3), (4, .int a4)] := hl
  unfold f_PM_comesByRow at h
  have hW : WS G ad cI cZ s σ s.heap [] := ⟨hP, va_S.rf⟩
  refine lv_aload_n hx hb d_PM_comesByRow_0 rfl (lv_at hl 0 rfl) ?_
  refine gf_PM_26 C hW.1 d_PM_comesByRow_1 ?_
  refine lv_iload_n hx hb d_PM_comesByRow_4 rfl (lv_at hl 1 rfl) ?_
  refine lv_iload_n hx hb d_PM_comesByRow_5 rfl (lv_at hl 2 rfl) ?_
  refine lv_iload_n hx hb d_PM_comesByRow_6 rfl (lv_at hl 3 rfl) ?_
  refine lv_iload hx hb d_PM_comesByRow_7 (lv_at hl 4 rfl) ?_
  obtain ⟨r1, g_r1, h⟩ := ob_some h
  refine cl_PM_219 (rest := []) C hD (hml.trans hl.1.symm) hW g_r1 ⟨Nat.le_of_ble_eq_true rfl, Nat.le_of_ble_eq_true rfl⟩ (Nat.le_of_ble_eq_true rfl) d_PM_comesByRow_9 ⟨Nat.zero_le _, Nat.zero_le _⟩ (fun H locs hW => ?_)
  refine lv_aload_n hx hb d_PM_comesByRow_12 rfl (lv_at hl 0 rfl) ?_
  refine lv_iload_n hx hb d_PM_comesByRow_13 rfl (lv_at hl 1 rfl) ?_
  refine lv_iload_n hx hb d_PM_comesByRow_14 rfl (lv_at hl 2 rfl) ?_
  obtain ⟨r2, g_r2, h⟩ := ob_some h
  refine cl_PM_105 (rest := []) C (hml.trans hl.1.symm) hW.1 g_r2 ⟨Nat.le_of_ble_eq_true rfl, Nat.le_of_ble_eq_true rfl⟩ (Nat.le_of_ble_eq_true rfl) d_PM_comesByRow_15 ⟨Nat.zero_le _, Nat.zero_le _⟩ ?_
  refine lv_istore (lv' := [(5, .int r2), (0, .ref (ad 0)), (1, .int a1), (2, .int a2), (3, .int a3), (4, .int a4)]) hx hb d_PM_comesByRow_18 hl (by decide) rfl (fun ls hl => ?_)
  refine lv_iload hx hb d_PM_comesByRow_20 (lv_at hl 0 rfl) ?_
  refine lv_iconst (v := (-1)) hx hb d_PM_comesByRow_22 (by decide) ?_
  refine lv_icmp_eq (tgt := 48) hx hb d_PM_comesByRow_23 (by decide) (fun c3 => ?_) (fun c3 => ?_)
  · rw [if_pos c3] at h
    refine lv_aload_n hx hb d_PM_comesByRow_48 rfl (lv_at hl 1 rfl) ?_
    refine lv_iload_n hx hb d_PM_comesByRow_49 rfl (lv_at hl 3 rfl) ?_
    refine pf_PM_59 C hD hW d_PM_comesByRow_50 (fun H locs hW => ?_)
    obtain ⟨σ8, e_σ8, h⟩ := lt1_some h
    rw [← e_σ8] at hW
    refine lv_iconst (v := 1) hx hb d_PM_comesByRow_53 (by decide) ?_
    exact W.zret hx hb hr rfl (fun t ht _ => qm_i h ht hW) hW.2.2.2 d_PM_comesByRow_54
  · rw [if_neg c3] at h
    refine lv_aload_n hx hb d_PM_comesByRow_26 rfl (lv_at hl 1 rfl) ?_
    refine lv_iload hx hb d_PM_comesByRow_27 (lv_at hl 0 rfl) ?_
    refine lv_iload_n hx hb d_PM_comesByRow_29 rfl (lv_at hl 3 rfl) ?_
    refine lv_ldc (v := 1000000) hx hb hown (hts _ w_343) d_PM_comesByRow_30 ?_
    obtain ⟨r4, g_r4, h⟩ := ob_some h
    refine cl_PM_168 (rest := []) C hD (hml.trans hl.1.symm) hW g_r4 ⟨Nat.le_of_ble_eq_true rfl, Nat.le_of_ble_eq_true rfl⟩ (Nat.le_of_ble_eq_true rfl) d_PM_comesByRow_32 ⟨Nat.zero_le _, Nat.zero_le _⟩ (fun H locs hW => ?_)
    refine lv_if_ne (tgt := 48) hx hb d_PM_comesByRow_35 (by decide) (fun c5 => ?_) (fun c5 => ?_)
    · rw [if_neg c5] at h
      refine lv_aload_n hx hb d_PM_comesByRow_48 rfl (lv_at hl 1 rfl) ?_
      refine lv_iload_n hx hb d_PM_comesByRow_49 rfl (lv_at hl 3 rfl) ?_
      refine pf_PM_59 C hD hW d_PM_comesByRow_50 (fun H locs hW => ?_)
      obtain ⟨σ7, e_σ7, h⟩ := lt1_some h
      rw [← e_σ7] at hW
      refine lv_iconst (v := 1) hx hb d_PM_comesByRow_53 (by decide) ?_
      exact W.zret hx hb hr rfl (fun t ht _ => qm_i h ht hW) hW.2.2.2 d_PM_comesByRow_54
    · rw [if_pos c5] at h
      refine lv_aload_n hx hb d_PM_comesByRow_38 rfl (lv_at hl 1 rfl) ?_
      refine gf_PM_26 C hW.1 d_PM_comesByRow_39 ?_
      refine lv_iload_n hx hb d_PM_comesByRow_42 rfl (lv_at hl 2 rfl) ?_
      obtain ⟨r6, g_r6, h⟩ := ob_some h
      refine cl_PM_220 (rest := []) C hD (hml.trans hl.1.symm) hW g_r6 ⟨Nat.le_of_ble_eq_true rfl, Nat.le_of_ble_eq_true rfl⟩ (Nat.le_of_ble_eq_true rfl) d_PM_comesByRow_43 ⟨Nat.zero_le _, Nat.zero_le _⟩ (fun H locs hW => ?_)
      refine lv_iconst (v := 0) hx hb d_PM_comesByRow_46 (by decide) ?_
      exact W.zret hx hb hr rfl (fun t ht _ => qm_i h ht hW) hW.2.2.2 d_PM_comesByRow_47
section RC
variable {p : Program} {l : Launch} {e : Env} {R : Room} {s : State} {m : MethodId} {args : Array Value} {below : List Frame} {meth : Method} {c : Code} {H : Heap} {locs : List Loc} {cells slots : Nat} {Q : State → Prop}
variable {cc : ByteArray} {pc : Nat} {ls : Array Slot} {rest : List Value} {G : va_G} {ad : Nat → Nat} {cI cZ : ClassId} {σ : Sg} {own : String}
theorem cl_PM_112 (C : CX "PlaceMoves" cc p s m args c G cI cZ) (hD : DX ad) (hml : c.maxLocals = ls.size) (hW : WS G ad cI cZ s σ H locs) {x1 : Int32} {x2 : Int32} {x3 : Int32} {x4 : Int32} {r : Int32 × Sg} (hg : f_PM_comesByRow σ x1 x2 x3 x4 = some r) (hR : 6 + 1 ≤ R.frames ∧ 8 + (6 + 11) + 140 ≤ R.locals) (hrest : (rest.map fun v => v.category).sum ≤ 8) (hd : decode cc pc = .ok (.invokevirtual 112, 3)) (hcs : cells + 0 ≤ R.cells ∧ slots + 0 ≤ R.slots) (kk : ∀ (H1 : Heap) (locs1 : List Loc), WS G ad cI cZ s (r.2) H1 locs1 → W p l e R s m args below meth c H1 locs1 cells slots Q (F0 m (pc + 3) ls (.int r.1 :: rest))) : W p l e R s m args below meth c H locs cells slots Q (F0 m pc ls (.int x4 :: .int x3 :: .int x2 :: .int x1 :: .ref (ad 0) :: rest)) :=
  va_calli (va_runV (As := [.int x1, .int x2, .int x3, .int x4]) (rest := rest) ⟨C.1, C.2.1, hml, C.2.2.1, C.2.2.2.1⟩ (c_PM_comesByRow l G ad cI cZ hD σ x1 x2 x3 x4 r hg) (cwV 4 C.2.2.2.1 (wg_V w_418 w_420 ws_7 w_1 w_421) rfl rfl rfl (by decide +kernel) hR) ⟨PcX.blind, va_recv C.2.2.2.2.1 hW.1 (ci := 0) (q0 := 0) rfl rfl, fun U hU hZ => ⟨rfl, by rw [hU]; exact hW.1, C.2.2.2.2.warm hZ⟩⟩ rfl rfl rfl rfl (lv_room hrest) hd hcs) hW.2 (fun _ _ z => z) (fun _ z => z) (fun r' u t H1 locs1 ht _ hp hB _ _ hS => by subst hp; exact kk H1 locs1 ⟨by rw [← ht]; exact hB, hS⟩)
end RC
abbrev wl_Doors_add : List Cond := .code ⟨"PlaceMoves$Doors", "add", "(IIII)I"⟩ prog_2_method_2_code 6 (some FieldType.int) :: WG
set_option maxHeartbeats 4000000 in
set_option maxRecDepth 100000 in
theorem c_Doors_add (l : Launch) (G : va_G) (ad : Nat → Nat) (cI cZ : ClassId) (hD : DX ad) (σ : Sg) (a1 : Int32) (a2 : Int32) (a3 : Int32) (a4 : Int32) (out : Int32 × Sg) (h : f_Doors_add σ a1 a2 a3 a4 = some out) : Met l ⟨"PlaceMoves$Doors", "add", "(IIII)I"⟩ wl_Doors_add ({ frames := 1, cells := 0, slots := 0, locals := 21 } : Room) (PcX G ad cI cZ σ [.ref (ad 4), .int a1, .int a2, .int a3, .int a4]) (QMi G ad cI cZ out) 0 0 (AX ad) := by
  refine Met.ofW (cc := prog_2_method_2_code) (maxL := 6) (ret := (some FieldType.int)) (by decide) rfl ?_
  intro p e s m args below meth c s₁ B hml hv
  obtain ⟨rfl, hP, hK⟩ := hv
  have hx := B.exec
  have hb := B.bytes
  have hr := B.returns
  have hts0 := atoms_spec (ws := wl_Doors_add) B.pre
  have hts : ∀ w ∈ WG, w.before _ s = true := fun w hw => hts0 w (List.mem_cons_of_mem _ hw)
  have hown : s.vm.findClass "PlaceMoves$Doors" = some m.cls := findClass_of_methodNamed B.named
  have hlocks := B.notSynchronized
  have C : CX "PlaceMoves$Doors" prog_2_method_2_code p s m _ c G cI cZ := ⟨hx, hb, hown, hts, hK⟩
  have hl := lv_entry ([.ref (ad 4), .int a1, .int a2, .int a3, .int a4]) (n := 6) (Nat.le_of_ble_eq_true rfl)
  rw [lg_entry_eq]
  generalize (lg_sl ([.ref (ad 4), .int a1, .int a2, .int a3, .int a4]) ++ List.replicate (6 - (lg_sl ([.ref (ad 4), .int a1, .int a2, .int a3, .int a4])).length) Slot.unset).toArray = ls at hl ⊢
  have hl : lv_has ls 6 [(0, .ref (ad 4)), (1, .int a1), (2, .int a2), (3, .int a3), (4, .int a4)] := hl
  unfold f_Doors_add at h
  have hW : WS G ad cI cZ s σ s.heap [] := ⟨hP, va_S.rf⟩
  refine lv_aload_n hx hb d_Doors_add_0 rfl (lv_at hl 0 rfl) ?_
  refine gf_Doors_24 C hW.1 d_Doors_add_1 ?_
  refine lv_istore (lv' := [(5, .int (σ 4 0)), (0, .ref (ad 4)), (1, .int a1), (2, .int a2), (3, .int a3), (4, .int a4)]) hx hb d_Doors_add_4 hl (by decide) rfl (fun ls hl => ?_)
  refine lv_aload_n hx hb d_Doors_add_6 rfl (lv_at hl 1 rfl) ?_
  refine gf_Doors_9 C hW.1 d_Doors_add_7 ?_
  refine lv_iload hx hb d_Doors_add_10 (lv_at hl 0 rfl) ?_
  refine lv_iload_n hx hb d_Doors_add_12 rfl (lv_at hl 2 rfl) ?_
  obtain ⟨hin, h⟩ := gd_some h
  refine as_21 C hD hW hin d_Doors_add_13 (fun H locs hW => ?_)
  obtain ⟨σ1, e_σ1, h⟩ := lt1_some h
  rw [← e_σ1] at hW
  refine lv_aload_n hx hb d_Doors_add_14 rfl (lv_at hl 1 rfl) ?_
  refine gf_Doors_15 C hW.1 d_Doors_add_15 ?_
  refine lv_iload hx hb d_Doors_add_18 (lv_at hl 0 rfl) ?_
  refine lv_iload_n hx hb d_Doors_add_20 rfl (lv_at hl 3 rfl) ?_
  obtain ⟨hin, h⟩ := gd_some h
  refine as_22 C hD hW hin d_Doors_add_21 (fun H locs hW => ?_)
  obtain ⟨σ2, e_σ2, h⟩ := lt1_some h
  rw [← e_σ2] at hW
  refine lv_aload_n hx hb d_Doors_add_22 rfl (lv_at hl 1 rfl) ?_
  refine gf_Doors_18 C hW.1 d_Doors_add_23 ?_
  refine lv_iload hx hb d_Doors_add_26 (lv_at hl 0 rfl) ?_
  refine lv_iload_n hx hb d_Doors_add_28 rfl (lv_at hl 4 rfl) ?_
  refine lv_iload hx hb d_Doors_add_29 (lv_at hl 5 rfl) ?_
  refine mm_Doors_28 (rest := [.int (σ 4 0), .ref (ad 23)]) C (hml.trans hl.1.symm) ⟨Nat.le_of_ble_eq_true rfl, Nat.le_of_ble_eq_true rfl⟩ (Nat.le_of_ble_eq_true rfl) d_Doors_add_31 ⟨Nat.zero_le _, Nat.zero_le _⟩ ?_
  obtain ⟨hin, h⟩ := gd_some h
  refine as_23 C hD hW hin d_Doors_add_34 (fun H locs hW => ?_)
  obtain ⟨σ3, e_σ3, h⟩ := lt1_some h
  rw [← e_σ3] at hW
  refine lv_aload_n hx hb d_Doors_add_35 rfl (lv_at hl 1 rfl) ?_
  refine gf_Doors_21 C hW.1 d_Doors_add_36 ?_
  refine lv_iload hx hb d_Doors_add_39 (lv_at hl 0 rfl) ?_
  refine lv_iload_n hx hb d_Doors_add_41 rfl (lv_at hl 4 rfl) ?_
  refine lv_iload hx hb d_Doors_add_42 (lv_at hl 5 rfl) ?_
  refine mm_Doors_34 (rest := [.int (σ 4 0), .ref (ad 24)]) C (hml.trans hl.1.symm) ⟨Nat.le_of_ble_eq_true rfl, Nat.le_of_ble_eq_true rfl⟩ (Nat.le_of_ble_eq_true rfl) d_Doors_add_44 ⟨Nat.zero_le _, Nat.zero_le _⟩ ?_
  obtain ⟨hin, h⟩ := gd_some h
  refine as_24 C hD hW hin d_Doors_add_47 (fun H locs hW => ?_)
  obtain ⟨σ4, e_σ4, h⟩ := lt1_some h
  rw [← e_σ4] at hW
  refine lv_aload_n hx hb d_Doors_add_48 rfl (lv_at hl 1 rfl) ?_
  refine lv_iload hx hb d_Doors_add_49 (lv_at hl 0 rfl) ?_
  refine lv_iconst (v := 1) hx hb d_Doors_add_51 (by decide) ?_
  refine lv_iadd hx hb d_Doors_add_52 ?_
  refine pf_Doors_24 C hD hW d_Doors_add_53 (fun H locs hW => ?_)
  obtain ⟨σ5, e_σ5, h⟩ := lt1_some h
  rw [← e_σ5] at hW
  refine lv_iload hx hb d_Doors_add_56 (lv_at hl 0 rfl) ?_
  exact W.iret hx hb hr (fun t ht _ => qm_i h ht hW) hW.2.2.2 d_Doors_add_58
section RC
variable {p : Program} {l : Launch} {e : Env} {R : Room} {s : State} {m : MethodId} {args : Array Value} {below : List Frame} {meth : Method} {c : Code} {H : Heap} {locs : List Loc} {cells slots : Nat} {Q : State → Prop}
variable {cc : ByteArray} {pc : Nat} {ls : Array Slot} {rest : List Value} {G : va_G} {ad : Nat → Nat} {cI cZ : ClassId} {σ : Sg} {own : String}
theorem cl_PM_152 (C : CX "PlaceMoves" cc p s m args c G cI cZ) (hD : DX ad) (hml : c.maxLocals = ls.size) (hW : WS G ad cI cZ s σ H locs) {x1 : Int32} {x2 : Int32} {x3 : Int32} {x4 : Int32} {r : Int32 × Sg} (hg : f_Doors_add σ x1 x2 x3 x4 = some r) (hR : 1 + 1 ≤ R.frames ∧ 8 + (6 + 11) + 21 ≤ R.locals) (hrest : (rest.map fun v => v.category).sum ≤ 8) (hd : decode cc pc = .ok (.invokevirtual 152, 3)) (hcs : cells + 0 ≤ R.cells ∧ slots + 0 ≤ R.slots) (kk : ∀ (H1 : Heap) (locs1 : List Loc), WS G ad cI cZ s (r.2) H1 locs1 → W p l e R s m args below meth c H1 locs1 cells slots Q (F0 m (pc + 3) ls (.int r.1 :: rest))) : W p l e R s m args below meth c H locs cells slots Q (F0 m pc ls (.int x4 :: .int x3 :: .int x2 :: .int x1 :: .ref (ad 4) :: rest)) :=
  va_calli (va_runV (As := [.int x1, .int x2, .int x3, .int x4]) (rest := rest) ⟨C.1, C.2.1, hml, C.2.2.1, C.2.2.2.1⟩ (c_Doors_add l G ad cI cZ hD σ x1 x2 x3 x4 r hg) (cwV 4 C.2.2.2.1 (wg_V w_508 w_509 w_510 w_5 w_511) rfl rfl rfl (by decide +kernel) hR) ⟨PcX.blind, va_recv C.2.2.2.2.1 hW.1 (ci := 4) (q0 := 4) rfl rfl, fun U hU hZ => ⟨rfl, by rw [hU]; exact hW.1, C.2.2.2.2.warm hZ⟩⟩ rfl rfl rfl rfl (lv_room hrest) hd hcs) hW.2 (fun _ _ z => z) (fun _ z => z) (fun r' u t H1 locs1 ht _ hp hB _ _ hS => by subst hp; exact kk H1 locs1 ⟨by rw [← ht]; exact hB, hS⟩)
end RC
abbrev wl_Plans_add : List Cond := .code ⟨"PlaceMoves$Plans", "add", "(IIII)V"⟩ prog_4_method_2_code 5 none :: WG
set_option maxHeartbeats 4000000 in
set_option maxRecDepth 100000 in
theorem c_Plans_add (l : Launch) (G : va_G) (ad : Nat → Nat) (cI cZ : ClassId) (hD : DX ad) (σ : Sg) (a1 : Int32) (a2 : Int32) (a3 : Int32) (a4 : Int32) (out : Sg) (h : f_Plans_add σ a1 a2 a3 a4 = some out) : Met l ⟨"PlaceMoves$Plans", "add", "(IIII)V"⟩ wl_Plans_add ({ frames := 0, cells := 0, slots := 0, locals := 0 } : Room) (PcX G ad cI cZ σ [.ref (ad 5), .int a1, .int a2, .int a3, .int a4]) (QMv G ad cI cZ out) 0 0 (AX ad) := by
  refine Met.ofW (cc := prog_4_method_2_code) (maxL := 5) (ret := none) (by decide) rfl ?_
  intro p e s m args below meth c s₁ B hml hv
  obtain ⟨rfl, hP, hK⟩ := hv
  have hx := B.exec
  have hb := B.bytes
  have hr := B.returns
  have hts0 := atoms_spec (ws := wl_Plans_add) B.pre
  have hts : ∀ w ∈ WG, w.before _ s = true := fun w hw => hts0 w (List.mem_cons_of_mem _ hw)
  have hown : s.vm.findClass "PlaceMoves$Plans" = some m.cls := findClass_of_methodNamed B.named
  have hlocks := B.notSynchronized
  have C : CX "PlaceMoves$Plans" prog_4_method_2_code p s m _ c G cI cZ := ⟨hx, hb, hown, hts, hK⟩
  have hl := lv_entry ([.ref (ad 5), .int a1, .int a2, .int a3, .int a4]) (n := 5) (Nat.le_of_ble_eq_true rfl)
  rw [lg_entry_eq]
  generalize (lg_sl ([.ref (ad 5), .int a1, .int a2, .int a3, .int a4]) ++ List.replicate (5 - (lg_sl ([.ref (ad 5), .int a1, .int a2, .int a3, .int a4])).length) Slot.unset).toArray = ls at hl ⊢
  have hl : lv_has ls 5 [(0, .ref (ad 5)), (1, .int a1), (2, .int a2), (3, .int a3), (4, .int a4)] := hl
  unfold f_Plans_add at h
  have hW : WS G ad cI cZ s σ s.heap [] := ⟨hP, va_S.rf⟩
  refine lv_aload_n hx hb d_Plans_add_0 rfl (lv_at hl 0 rfl) ?_
  refine gf_Plans_9 C hW.1 d_Plans_add_1 ?_
  refine lv_aload_n hx hb d_Plans_add_4 rfl (lv_at hl 0 rfl) ?_
  refine gf_Plans_24 C hW.1 d_Plans_add_5 ?_
  refine lv_iload_n hx hb d_Plans_add_8 rfl (lv_at hl 1 rfl) ?_
  obtain ⟨hin, h⟩ := gd_some h
  refine as_25 C hD hW hin d_Plans_add_9 (fun H locs hW => ?_)
  obtain ⟨σ1, e_σ1, h⟩ := lt1_some h
  rw [← e_σ1] at hW
  refine lv_aload_n hx hb d_Plans_add_10 rfl (lv_at hl 0 rfl) ?_
  refine gf_Plans_15 C hW.1 d_Plans_add_11 ?_
  refine lv_aload_n hx hb d_Plans_add_14 rfl (lv_at hl 0 rfl) ?_
  refine gf_Plans_24 C hW.1 d_Plans_add_15 ?_
  refine lv_iload_n hx hb d_Plans_add_18 rfl (lv_at hl 2 rfl) ?_
  obtain ⟨hin, h⟩ := gd_some h
  refine as_26 C hD hW hin d_Plans_add_19 (fun H locs hW => ?_)
  obtain ⟨σ2, e_σ2, h⟩ := lt1_some h
  rw [← e_σ2] at hW
  refine lv_aload_n hx hb d_Plans_add_20 rfl (lv_at hl 0 rfl) ?_
  refine gf_Plans_18 C hW.1 d_Plans_add_21 ?_
  refine lv_aload_n hx hb d_Plans_add_24 rfl (lv_at hl 0 rfl) ?_
  refine gf_Plans_24 C hW.1 d_Plans_add_25 ?_
  refine lv_iload_n hx hb d_Plans_add_28 rfl (lv_at hl 3 rfl) ?_
  obtain ⟨hin, h⟩ := gd_some h
  refine as_27 C hD hW hin d_Plans_add_29 (fun H locs hW => ?_)
  obtain ⟨σ3, e_σ3, h⟩ := lt1_some h
  rw [← e_σ3] at hW
  refine lv_aload_n hx hb d_Plans_add_30 rfl (lv_at hl 0 rfl) ?_
  refine gf_Plans_21 C hW.1 d_Plans_add_31 ?_
  refine lv_aload_n hx hb d_Plans_add_34 rfl (lv_at hl 0 rfl) ?_
  refine gf_Plans_24 C hW.1 d_Plans_add_35 ?_
  refine lv_iload hx hb d_Plans_add_38 (lv_at hl 4 rfl) ?_
  obtain ⟨hin, h⟩ := gd_some h
  refine as_28 C hD hW hin d_Plans_add_40 (fun H locs hW => ?_)
  obtain ⟨σ4, e_σ4, h⟩ := lt1_some h
  rw [← e_σ4] at hW
  refine lv_aload_n hx hb d_Plans_add_41 rfl (lv_at hl 0 rfl) ?_
  refine lv_dup hx hb d_Plans_add_42 rfl ?_
  refine gf_Plans_24 C hW.1 d_Plans_add_43 ?_
  refine lv_iconst (v := 1) hx hb d_Plans_add_46 (by decide) ?_
  refine lv_iadd hx hb d_Plans_add_47 ?_
  refine pf_Plans_24 C hD hW d_Plans_add_48 (fun H locs hW => ?_)
  obtain ⟨σ5, e_σ5, h⟩ := lt1_some h
  rw [← e_σ5] at hW
  exact W.vret hx hb hr (fun t ht _ => qm_v h ht hW) hW.2.2.2 d_Plans_add_51
section RC
variable {p : Program} {l : Launch} {e : Env} {R : Room} {s : State} {m : MethodId} {args : Array Value} {below : List Frame} {meth : Method} {c : Code} {H : Heap} {locs : List Loc} {cells slots : Nat} {Q : State → Prop}
variable {cc : ByteArray} {pc : Nat} {ls : Array Slot} {rest : List Value} {G : va_G} {ad : Nat → Nat} {cI cZ : ClassId} {σ : Sg} {own : String}
theorem cl_PM_165 (C : CX "PlaceMoves" cc p s m args c G cI cZ) (hD : DX ad) (hml : c.maxLocals = ls.size) (hW : WS G ad cI cZ s σ H locs) {x1 : Int32} {x2 : Int32} {x3 : Int32} {x4 : Int32} {r : Sg} (hg : f_Plans_add σ x1 x2 x3 x4 = some r) (hR : 0 + 1 ≤ R.frames ∧ 8 + (5 + 11) + 0 ≤ R.locals) (hrest : (rest.map fun v => v.category).sum ≤ 8) (hd : decode cc pc = .ok (.invokevirtual 165, 3)) (hcs : cells + 0 ≤ R.cells ∧ slots + 0 ≤ R.slots) (kk : ∀ (H1 : Heap) (locs1 : List Loc), WS G ad cI cZ s (r) H1 locs1 → W p l e R s m args below meth c H1 locs1 cells slots Q (F0 m (pc + 3) ls rest)) : W p l e R s m args below meth c H locs cells slots Q (F0 m pc ls (.int x4 :: .int x3 :: .int x2 :: .int x1 :: .ref (ad 5) :: rest)) :=
  va_callv (va_runV (As := [.int x1, .int x2, .int x3, .int x4]) (rest := rest) ⟨C.1, C.2.1, hml, C.2.2.1, C.2.2.2.1⟩ (c_Plans_add l G ad cI cZ hD σ x1 x2 x3 x4 r hg) (cwV 4 C.2.2.2.1 (wg_V w_559 w_560 w_561 w_6 w_562) rfl rfl rfl (by decide +kernel) hR) ⟨PcX.blind, va_recv C.2.2.2.2.1 hW.1 (ci := 5) (q0 := 5) rfl rfl, fun U hU hZ => ⟨rfl, by rw [hU]; exact hW.1, C.2.2.2.2.warm hZ⟩⟩ rfl rfl rfl rfl (lv_room hrest) hd hcs) hW.2 (fun _ _ z => z) (fun _ z => z) (fun u t H1 locs1 ht _ _ hB _ _ hS => kk H1 locs1 ⟨by rw [← ht]; exact hB, hS⟩)
end RC
abbrev wl_Plans_dropNewest : List Cond := .code ⟨"PlaceMoves$Plans", "dropNewest", "()V"⟩ prog_4_method_3_code 1 none :: WG
set_option maxHeartbeats 4000000 in
set_option maxRecDepth 100000 in
theorem c_Plans_dropNewest (l : Launch) (G : va_G) (ad : Nat → Nat) (cI cZ : ClassId) (hD : DX ad) (σ : Sg)  (out : Sg) (h : f_Plans_dropNewest σ  = some out) : Met l ⟨"PlaceMoves$Plans", "dropNewest", "()V"⟩ wl_Plans_dropNewest ({ frames := 0, cells := 0, slots := 0, locals := 0 } : Room) (PcX G ad cI cZ σ [.ref (ad 5)]) (QMv G ad cI cZ out) 0 0 (AX ad) := by
  refine Met.ofW (cc := prog_4_method_3_code) (maxL := 1) (ret := none) (by decide) rfl ?_
  intro p e s m args below meth c s₁ B hml hv
  obtain ⟨rfl, hP, hK⟩ := hv
  have hx := B.exec
  have hb := B.bytes
  have hr := B.returns
  have hts0 := atoms_spec (ws := wl_Plans_dropNewest) B.pre
  have hts : ∀ w ∈ WG, w.before _ s = true := fun w hw => hts0 w (List.mem_cons_of_mem _ hw)
  have hown : s.vm.findClass "PlaceMoves$Plans" = some m.cls := findClass_of_methodNamed B.named
  have hlocks := B.notSynchronized
  have C : CX "PlaceMoves$Plans" prog_4_method_3_code p s m _ c G cI cZ := ⟨hx, hb, hown, hts, hK⟩
  have hl := lv_entry ([.ref (ad 5)]) (n := 1) (Nat.le_of_ble_eq_true rfl)
  rw [lg_entry_eq]
  generalize (lg_sl ([.ref (ad 5)]) ++ List.replicate (1 - (lg_sl ([.ref (ad 5)])).length) Slot.unset).toArray = ls at hl ⊢
  have hl : lv_has ls 1 [(0, .ref (ad 5))] := hl
  unfold f_Plans_dropNewest at h
  have hW : WS G ad cI cZ s σ s.heap [] := ⟨hP, va_S.rf⟩
  refine lv_aload_n hx hb d_Plans_dropNewest_0 rfl (lv_at hl 0 rfl) ?_
  refine lv_dup hx hb d_Plans_dropNewest_1 rfl ?_
  refine gf_Plans_24 C hW.1 d_Plans_dropNewest_2 ?_
  refine lv_iconst (v := 1) hx hb d_Plans_dropNewest_5 (by decide) ?_
  refine lv_isub hx hb d_Plans_dropNewest_6 ?_
  refine pf_Plans_24 C hD hW d_Plans_dropNewest_7 (fun H locs hW => ?_)
  obtain ⟨σ1, e_σ1, h⟩ := lt1_some h
  rw [← e_σ1] at hW
  exact W.vret hx hb hr (fun t ht _ => qm_v h ht hW) hW.2.2.2 d_Plans_dropNewest_10
section RC
variable {p : Program} {l : Launch} {e : Env} {R : Room} {s : State} {m : MethodId} {args : Array Value} {below : List Frame} {meth : Method} {c : Code} {H : Heap} {locs : List Loc} {cells slots : Nat} {Q : State → Prop}
variable {cc : ByteArray} {pc : Nat} {ls : Array Slot} {rest : List Value} {G : va_G} {ad : Nat → Nat} {cI cZ : ClassId} {σ : Sg} {own : String}
theorem cl_PM_171 (C : CX "PlaceMoves" cc p s m args c G cI cZ) (hD : DX ad) (hml : c.maxLocals = ls.size) (hW : WS G ad cI cZ s σ H locs)  {r : Sg} (hg : f_Plans_dropNewest σ  = some r) (hR : 0 + 1 ≤ R.frames ∧ 8 + (1 + 11) + 0 ≤ R.locals) (hrest : (rest.map fun v => v.category).sum ≤ 8) (hd : decode cc pc = .ok (.invokevirtual 171, 3)) (hcs : cells + 0 ≤ R.cells ∧ slots + 0 ≤ R.slots) (kk : ∀ (H1 : Heap) (locs1 : List Loc), WS G ad cI cZ s (r) H1 locs1 → W p l e R s m args below meth c H1 locs1 cells slots Q (F0 m (pc + 3) ls rest)) : W p l e R s m args below meth c H locs cells slots Q (F0 m pc ls (.ref (ad 5) :: rest)) :=
  va_callv (va_runV (As := []) (rest := rest) ⟨C.1, C.2.1, hml, C.2.2.1, C.2.2.2.1⟩ (c_Plans_dropNewest l G ad cI cZ hD σ  r hg) (cwV 0 C.2.2.2.1 (wg_V w_563 w_564 w_565 w_6 w_566) rfl rfl rfl (by decide +kernel) hR) ⟨PcX.blind, va_recv C.2.2.2.2.1 hW.1 (ci := 5) (q0 := 5) rfl rfl, fun U hU hZ => ⟨rfl, by rw [hU]; exact hW.1, C.2.2.2.2.warm hZ⟩⟩ rfl rfl rfl rfl (lv_room hrest) hd hcs) hW.2 (fun _ _ z => z) (fun _ z => z) (fun u t H1 locs1 ht _ _ hB _ _ hS => kk H1 locs1 ⟨by rw [← ht]; exact hB, hS⟩)
end RC
abbrev wl_QuietTimes_add : List Cond := .code ⟨"PlaceMoves$QuietTimes", "add", "(III)V"⟩ prog_5_method_2_code 4 none :: WG
set_option maxHeartbeats 4000000 in
set_option maxRecDepth 100000 in
theorem c_QuietTimes_add (l : Launch) (G : va_G) (ad : Nat → Nat) (cI cZ : ClassId) (hD : DX ad) (σ : Sg) (a1 : Int32) (a2 : Int32) (a3 : Int32) (out : Sg) (h : f_QuietTimes_add σ a1 a2 a3 = some out) : Met l ⟨"PlaceMoves$QuietTimes", "add", "(III)V"⟩ wl_QuietTimes_add ({ frames := 0, cells := 0, slots := 0, locals := 0 } : Room) (PcX G ad cI cZ σ [.ref (ad 6), .int a1, .int a2, .int a3]) (QMv G ad cI cZ out) 0 0 (AX ad) := by
  refine Met.ofW (cc := prog_5_method_2_code) (maxL := 4) (ret := none) (by decide) rfl ?_
  intro p e s m args below meth c s₁ B hml hv
  obtain ⟨rfl, hP, hK⟩ := hv
  have hx := B.exec
  have hb := B.bytes
  have hr := B.returns
  have hts0 := atoms_spec (ws := wl_QuietTimes_add) B.pre
  have hts : ∀ w ∈ WG, w.before _ s = true := fun w hw => hts0 w (List.mem_cons_of_mem _ hw)
  have hown : s.vm.findClass "PlaceMoves$QuietTimes" = some m.cls := findClass_of_methodNamed B.named
  have hlocks := B.notSynchronized
  have C : CX "PlaceMoves$QuietTimes" prog_5_method_2_code p s m _ c G cI cZ := ⟨hx, hb, hown, hts, hK⟩
  have hl := lv_entry ([.ref (ad 6), .int a1, .int a2, .int a3]) (n := 4) (Nat.le_of_ble_eq_true rfl)
  rw [lg_entry_eq]
  generalize (lg_sl ([.ref (ad 6), .int a1, .int a2, .int a3]) ++ List.replicate (4 - (lg_sl ([.ref (ad 6), .int a1, .int a2, .int a3])).length) Slot.unset).toArray = ls at hl ⊢
  have hl : lv_has ls 4 [(0, .ref (ad 6)), (1, .int a1), (2, .int a2), (3, .int a3)] := hl
  unfold f_QuietTimes_add at h
  have hW : WS G ad cI cZ s σ s.heap [] := ⟨hP, va_S.rf⟩
  refine lv_aload_n hx hb d_QuietTimes_add_0 rfl (lv_at hl 0 rfl) ?_
  refine gf_QuietTimes_9 C hW.1 d_QuietTimes_add_1 ?_
  refine lv_aload_n hx hb d_QuietTimes_add_4 rfl (lv_at hl 0 rfl) ?_
  refine gf_QuietTimes_21 C hW.1 d_QuietTimes_add_5 ?_
  refine lv_iload_n hx hb d_QuietTimes_add_8 rfl (lv_at hl 1 rfl) ?_
  obtain ⟨hin, h⟩ := gd_some h
  refine as_29 C hD hW hin d_QuietTimes_add_9 (fun H locs hW => ?_)
  obtain ⟨σ1, e_σ1, h⟩ := lt1_some h
  rw [← e_σ1] at hW
  refine lv_aload_n hx hb d_QuietTimes_add_10 rfl (lv_at hl 0 rfl) ?_
  refine gf_QuietTimes_15 C hW.1 d_QuietTimes_add_11 ?_
  refine lv_aload_n hx hb d_QuietTimes_add_14 rfl (lv_at hl 0 rfl) ?_
  refine gf_QuietTimes_21 C hW.1 d_QuietTimes_add_15 ?_
  refine lv_iload_n hx hb d_QuietTimes_add_18 rfl (lv_at hl 2 rfl) ?_
  obtain ⟨hin, h⟩ := gd_some h
  refine as_30 C hD hW hin d_QuietTimes_add_19 (fun H locs hW => ?_)
  obtain ⟨σ2, e_σ2, h⟩ := lt1_some h
  rw [← e_σ2] at hW
  refine lv_aload_n hx hb d_QuietTimes_add_20 rfl (lv_at hl 0 rfl) ?_
  refine gf_QuietTimes_18 C hW.1 d_QuietTimes_add_21 ?_
  refine lv_aload_n hx hb d_QuietTimes_add_24 rfl (lv_at hl 0 rfl) ?_
  refine gf_QuietTimes_21 C hW.1 d_QuietTimes_add_25 ?_
  refine lv_iload_n hx hb d_QuietTimes_add_28 rfl (lv_at hl 3 rfl) ?_
  obtain ⟨hin, h⟩ := gd_some h
  refine as_31 C hD hW hin d_QuietTimes_add_29 (fun H locs hW => ?_)
  obtain ⟨σ3, e_σ3, h⟩ := lt1_some h
  rw [← e_σ3] at hW
  refine lv_aload_n hx hb d_QuietTimes_add_30 rfl (lv_at hl 0 rfl) ?_
  refine lv_dup hx hb d_QuietTimes_add_31 rfl ?_
  refine gf_QuietTimes_21 C hW.1 d_QuietTimes_add_32 ?_
  refine lv_iconst (v := 1) hx hb d_QuietTimes_add_35 (by decide) ?_
  refine lv_iadd hx hb d_QuietTimes_add_36 ?_
  refine pf_QuietTimes_21 C hD hW d_QuietTimes_add_37 (fun H locs hW => ?_)
  obtain ⟨σ4, e_σ4, h⟩ := lt1_some h
  rw [← e_σ4] at hW
  exact W.vret hx hb hr (fun t ht _ => qm_v h ht hW) hW.2.2.2 d_QuietTimes_add_40
section RC
variable {p : Program} {l : Launch} {e : Env} {R : Room} {s : State} {m : MethodId} {args : Array Value} {below : List Frame} {meth : Method} {c : Code} {H : Heap} {locs : List Loc} {cells slots : Nat} {Q : State → Prop}
variable {cc : ByteArray} {pc : Nat} {ls : Array Slot} {rest : List Value} {G : va_G} {ad : Nat → Nat} {cI cZ : ClassId} {σ : Sg} {own : String}
theorem cl_PM_184 (C : CX "PlaceMoves" cc p s m args c G cI cZ) (hD : DX ad) (hml : c.maxLocals = ls.size) (hW : WS G ad cI cZ s σ H locs) {x1 : Int32} {x2 : Int32} {x3 : Int32} {r : Sg} (hg : f_QuietTimes_add σ x1 x2 x3 = some r) (hR : 0 + 1 ≤ R.frames ∧ 8 + (4 + 11) + 0 ≤ R.locals) (hrest : (rest.map fun v => v.category).sum ≤ 8) (hd : decode cc pc = .ok (.invokevirtual 184, 3)) (hcs : cells + 0 ≤ R.cells ∧ slots + 0 ≤ R.slots) (kk : ∀ (H1 : Heap) (locs1 : List Loc), WS G ad cI cZ s (r) H1 locs1 → W p l e R s m args below meth c H1 locs1 cells slots Q (F0 m (pc + 3) ls rest)) : W p l e R s m args below meth c H locs cells slots Q (F0 m pc ls (.int x3 :: .int x2 :: .int x1 :: .ref (ad 6) :: rest)) :=
  va_callv (va_runV (As := [.int x1, .int x2, .int x3]) (rest := rest) ⟨C.1, C.2.1, hml, C.2.2.1, C.2.2.2.1⟩ (c_QuietTimes_add l G ad cI cZ hD σ x1 x2 x3 r hg) (cwV 3 C.2.2.2.1 (wg_V w_582 w_583 w_584 w_7 w_585) rfl rfl rfl (by decide +kernel) hR) ⟨PcX.blind, va_recv C.2.2.2.2.1 hW.1 (ci := 6) (q0 := 6) rfl rfl, fun U hU hZ => ⟨rfl, by rw [hU]; exact hW.1, C.2.2.2.2.warm hZ⟩⟩ rfl rfl rfl rfl (lv_room hrest) hd hcs) hW.2 (fun _ _ z => z) (fun _ z => z) (fun u t H1 locs1 ht _ _ hB _ _ hS => kk H1 locs1 ⟨by rw [← ht]; exact hB, hS⟩)
end RC
