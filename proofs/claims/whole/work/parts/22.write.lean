abbrev wl_Places_add : List Cond := .code ⟨"PlaceMoves$Places", "add", "(II)I"⟩ prog_3_method_2_code 4 (some FieldType.int) :: WG
set_option maxHeartbeats 4000000 in
set_option maxRecDepth 100000 in
theorem c_Places_add (l : Launch) (G : va_G) (ad : Nat → Nat) (cI cZ : ClassId) (hD : DX ad) (σ : Sg) (a1 : Int32) (a2 : Int32) (out : Int32 × Sg) (h : f_Places_add σ a1 a2 = some out) : Met l ⟨"PlaceMoves$Places", "add", "(II)I"⟩ wl_Places_add ({ frames := 1, cells := 0, slots := 0, locals := 21 } : Room) (PcX G ad cI cZ σ [.ref (ad 1), .int a1, .int a2]) (QMi G ad cI cZ out) 0 0 (AX ad) := by
  refine Met.ofW (cc := prog_3_method_2_code) (maxL := 4) (ret := (some FieldType.int)) (by decide) rfl ?_
  intro p e s m args below meth c s₁ B hml hv
  obtain ⟨rfl, hP, hK⟩ := hv
  have hx := B.exec
  have hb := B.bytes
  have hr := B.returns
  have hts0 := atoms_spec (ws := wl_Places_add) B.pre
  have hts : ∀ w ∈ WG, w.before _ s = true := fun w hw => hts0 w (List.mem_cons_of_mem _ hw)
  have hown : s.vm.findClass "PlaceMoves$Places" = some m.cls := findClass_of_methodNamed B.named
  have hlocks := B.notSynchronized
  have C : CX "PlaceMoves$Places" prog_3_method_2_code p s m _ c G cI cZ := ⟨hx, hb, hown, hts, hK⟩
  have hl := lv_entry ([.ref (ad 1), .int a1, .int a2]) (n := 4) (Nat.le_of_ble_eq_true rfl)
  rw [lg_entry_eq]
  generalize (lg_sl ([.ref (ad 1), .int a1, .int a2]) ++ List.replicate (4 - (lg_sl ([.ref (ad 1), .int a1, .int a2])).length) Slot.unset).toArray = ls at hl ⊢
  have hl : lv_has ls 4 [(0, .ref (ad 1)), (1, .int a1), (2, .int a2)] := hl
  unfold f_Places_add at h
  have hW : WS G ad cI cZ s σ s.heap [] := ⟨hP, va_S.rf⟩
  refine lv_aload_n hx hb d_Places_add_0 rfl (lv_at hl 0 rfl) ?_
  refine gf_Places_18 C hW.1 d_Places_add_1 ?_
  refine lv_istore_n (lv' := [(3, .int (σ 1 0)), (0, .ref (ad 1)), (1, .int a1), (2, .int a2)]) hx hb d_Places_add_4 rfl hl (by decide) rfl (fun ls hl => ?_)
  refine lv_aload_n hx hb d_Places_add_5 rfl (lv_at hl 1 rfl) ?_
  refine gf_Places_9 C hW.1 d_Places_add_6 ?_
  refine lv_iload_n hx hb d_Places_add_9 rfl (lv_at hl 0 rfl) ?_
  refine lv_iload_n hx hb d_Places_add_10 rfl (lv_at hl 3 rfl) ?_
  obtain ⟨hin, h⟩ := gd_some h
  refine as_9 C hD hW hin d_Places_add_11 (fun H locs hW => ?_)
  obtain ⟨σ1, e_σ1, h⟩ := lt1_some h
  rw [← e_σ1] at hW
  refine lv_aload_n hx hb d_Places_add_12 rfl (lv_at hl 1 rfl) ?_
  refine gf_Places_15 C hW.1 d_Places_add_13 ?_
  refine lv_iload_n hx hb d_Places_add_16 rfl (lv_at hl 0 rfl) ?_
  refine lv_aload_n hx hb d_Places_add_17 rfl (lv_at hl 1 rfl) ?_
  refine lv_iload_n hx hb d_Places_add_18 rfl (lv_at hl 2 rfl) ?_
  obtain ⟨r2, g_r2, h⟩ := ob_some h
  refine cl_Places_22 (rest := [.int (σ 1 0), .ref (ad 10)]) C (hml.trans hl.1.symm) hW.1 g_r2 ⟨Nat.le_of_ble_eq_true rfl, Nat.le_of_ble_eq_true rfl⟩ (Nat.le_of_ble_eq_true rfl) d_Places_add_19 ⟨Nat.zero_le _, Nat.zero_le _⟩ ?_
  refine lv_iconst (v := 1) hx hb d_Places_add_22 (by decide) ?_
  refine lv_iload_n hx hb d_Places_add_23 rfl (lv_at hl 0 rfl) ?_
  refine lv_ishl hx hb d_Places_add_24 ?_
  refine lv_ior hx hb d_Places_add_25 ?_
  obtain ⟨hin, h⟩ := gd_some h
  refine as_10 C hD hW hin d_Places_add_26 (fun H locs hW => ?_)
  obtain ⟨σ3, e_σ3, h⟩ := lt1_some h
  rw [← e_σ3] at hW
  refine lv_aload_n hx hb d_Places_add_27 rfl (lv_at hl 1 rfl) ?_
  refine lv_iload_n hx hb d_Places_add_28 rfl (lv_at hl 0 rfl) ?_
  refine lv_iconst (v := 1) hx hb d_Places_add_29 (by decide) ?_
  refine lv_iadd hx hb d_Places_add_30 ?_
  refine pf_Places_18 C hD hW d_Places_add_31 (fun H locs hW => ?_)
  obtain ⟨σ4, e_σ4, h⟩ := lt1_some h
  rw [← e_σ4] at hW
  refine lv_iload_n hx hb d_Places_add_34 rfl (lv_at hl 0 rfl) ?_
  exact W.iret hx hb hr (fun t ht _ => qm_i h ht hW) hW.2.2.2 d_Places_add_35
section RC
variable {p : Program} {l : Launch} {e : Env} {R : Room} {s : State} {m : MethodId} {args : Array Value} {below : List Frame} {meth : Method} {c : Code} {H : Heap} {locs : List Loc} {cells slots : Nat} {Q : State → Prop}
variable {cc : ByteArray} {pc : Nat} {ls : Array Slot} {rest : List Value} {G : va_G} {ad : Nat → Nat} {cI cZ : ClassId} {σ : Sg} {own : String}
theorem cl_PM_79 (C : CX "PlaceMoves" cc p s m args c G cI cZ) (hD : DX ad) (hml : c.maxLocals = ls.size) (hW : WS G ad cI cZ s σ H locs) {x1 : Int32} {x2 : Int32} {r : Int32 × Sg} (hg : f_Places_add σ x1 x2 = some r) (hR : 1 + 1 ≤ R.frames ∧ 8 + (4 + 11) + 21 ≤ R.locals) (hrest : (rest.map fun v => v.category).sum ≤ 8) (hd : decode cc pc = .ok (.invokevirtual 79, 3)) (hcs : cells + 0 ≤ R.cells ∧ slots + 0 ≤ R.slots) (kk : ∀ (H1 : Heap) (locs1 : List Loc), WS G ad cI cZ s (r.2) H1 locs1 → W p l e R s m args below meth c H1 locs1 cells slots Q (F0 m (pc + 3) ls (.int r.1 :: rest))) : W p l e R s m args below meth c H locs cells slots Q (F0 m pc ls (.int x2 :: .int x1 :: .ref (ad 1) :: rest)) :=
  va_calli (va_runV (As := [.int x1, .int x2]) (rest := rest) ⟨C.1, C.2.1, hml, C.2.2.1, C.2.2.2.1⟩ (c_Places_add l G ad cI cZ hD σ x1 x2 r hg) (cwV 2 C.2.2.2.1 (wg_V w_328 w_329 w_330 w_2 w_331) rfl rfl rfl (by decide +kernel) hR) ⟨PcX.blind, va_recv C.2.2.2.2.1 hW.1 (ci := 1) (q0 := 1) rfl rfl, fun U hU hZ => ⟨rfl, by rw [hU]; exact hW.1, C.2.2.2.2.warm hZ⟩⟩ rfl rfl rfl rfl (lv_room hrest) hd hcs) hW.2 (fun _ _ z => z) (fun _ z => z) (fun r' u t H1 locs1 ht _ hp hB _ _ hS => by subst hp; exact kk H1 locs1 ⟨by rw [← ht]; exact hB, hS⟩)
end RC
abbrev wl_Things_add : List Cond := .code ⟨"PlaceMoves$Things", "add", "(IIII)I"⟩ prog_7_method_2_code 6 (some FieldType.int) :: WG
set_option maxHeartbeats 4000000 in
set_option maxRecDepth 100000 in
theorem c_Things_add (l : Launch) (G : va_G) (ad : Nat → Nat) (cI cZ : ClassId) (hD : DX ad) (σ : Sg) (a1 : Int32) (a2 : Int32) (a3 : Int32) (a4 : Int32) (out : Int32 × Sg) (h : f_Things_add σ a1 a2 a3 a4 = some out) : Met l ⟨"PlaceMoves$Things", "add", "(IIII)I"⟩ wl_Things_add ({ frames := 1, cells := 0, slots := 0, locals := 21 } : Room) (PcX G ad cI cZ σ [.ref (ad 2), .int a1, .int a2, .int a3, .int a4]) (QMi G ad cI cZ out) 0 0 (AX ad) := by
  refine Met.ofW (cc := prog_7_method_2_code) (maxL := 6) (ret := (some FieldType.int)) (by decide) rfl ?_
  intro p e s m args below meth c s₁ B hml hv
  obtain ⟨rfl, hP, hK⟩ := hv
  have hx := B.exec
  have hb := B.bytes
  have hr := B.returns
  have hts0 := atoms_spec (ws := wl_Things_add) B.pre
  have hts : ∀ w ∈ WG, w.before _ s = true := fun w hw => hts0 w (List.mem_cons_of_mem _ hw)
  have hown : s.vm.findClass "PlaceMoves$Things" = some m.cls := findClass_of_methodNamed B.named
  have hlocks := B.notSynchronized
  have C : CX "PlaceMoves$Things" prog_7_method_2_code p s m _ c G cI cZ := ⟨hx, hb, hown, hts, hK⟩
  have hl := lv_entry ([.ref (ad 2), .int a1, .int a2, .int a3, .int a4]) (n := 6) (Nat.le_of_ble_eq_true rfl)
  rw [lg_entry_eq]
  generalize (lg_sl ([.ref (ad 2), .int a1, .int a2, .int a3, .int a4]) ++ List.replicate (6 - (lg_sl ([.ref (ad 2), .int a1, .int a2, .int a3, .int a4])).length) Slot.unset).toArray = ls at hl ⊢
  have hl : lv_has ls 6 [(0, .ref (ad 2)), (1, .int a1), (2, .int a2), (3, .int a3), (4, .int a4)] := hl
  unfold f_Things_add at h
  have hW : WS G ad cI cZ s σ s.heap [] := ⟨hP, va_S.rf⟩
  refine lv_aload_n hx hb d_Things_add_0 rfl (lv_at hl 0 rfl) ?_
  refine gf_Things_31 C hW.1 d_Things_add_1 ?_
  refine lv_istore (lv' := [(5, .int (σ 2 0)), (0, .ref (ad 2)), (1, .int a1), (2, .int a2), (3, .int a3), (4, .int a4)]) hx hb d_Things_add_4 hl (by decide) rfl (fun ls hl => ?_)
  refine lv_aload_n hx hb d_Things_add_6 rfl (lv_at hl 1 rfl) ?_
  refine gf_Things_9 C hW.1 d_Things_add_7 ?_
  refine lv_iload hx hb d_Things_add_10 (lv_at hl 0 rfl) ?_
  refine lv_iload_n hx hb d_Things_add_12 rfl (lv_at hl 2 rfl) ?_
  refine lv_iload_n hx hb d_Things_add_13 rfl (lv_at hl 3 rfl) ?_
  refine lv_iload_n hx hb d_Things_add_14 rfl (lv_at hl 4 rfl) ?_
  refine mm_Things_35 (rest := [.int a1, .int (σ 2 0), .ref (ad 11)]) C (hml.trans hl.1.symm) ⟨Nat.le_of_ble_eq_true rfl, Nat.le_of_ble_eq_true rfl⟩ (Nat.le_of_ble_eq_true rfl) d_Things_add_15 ⟨Nat.zero_le _, Nat.zero_le _⟩ ?_
  refine mm_Things_35 (rest := [.int (σ 2 0), .ref (ad 11)]) C (hml.trans hl.1.symm) ⟨Nat.le_of_ble_eq_true rfl, Nat.le_of_ble_eq_true rfl⟩ (Nat.le_of_ble_eq_true rfl) d_Things_add_18 ⟨Nat.zero_le _, Nat.zero_le _⟩ ?_
  obtain ⟨hin, h⟩ := gd_some h
  refine as_11 C hD hW hin d_Things_add_21 (fun H locs hW => ?_)
  obtain ⟨σ1, e_σ1, h⟩ := lt1_some h
  rw [← e_σ1] at hW
  refine lv_aload_n hx hb d_Things_add_22 rfl (lv_at hl 1 rfl) ?_
  refine gf_Things_18 C hW.1 d_Things_add_23 ?_
  refine lv_iload hx hb d_Things_add_26 (lv_at hl 0 rfl) ?_
  refine lv_iload_n hx hb d_Things_add_28 rfl (lv_at hl 2 rfl) ?_
  refine lv_iload_n hx hb d_Things_add_29 rfl (lv_at hl 3 rfl) ?_
  refine lv_iload_n hx hb d_Things_add_30 rfl (lv_at hl 4 rfl) ?_
  refine mm_Things_41 (rest := [.int a1, .int (σ 2 0), .ref (ad 13)]) C (hml.trans hl.1.symm) ⟨Nat.le_of_ble_eq_true rfl, Nat.le_of_ble_eq_true rfl⟩ (Nat.le_of_ble_eq_true rfl) d_Things_add_31 ⟨Nat.zero_le _, Nat.zero_le _⟩ ?_
  refine mm_Things_41 (rest := [.int (σ 2 0), .ref (ad 13)]) C (hml.trans hl.1.symm) ⟨Nat.le_of_ble_eq_true rfl, Nat.le_of_ble_eq_true rfl⟩ (Nat.le_of_ble_eq_true rfl) d_Things_add_34 ⟨Nat.zero_le _, Nat.zero_le _⟩ ?_
  obtain ⟨hin, h⟩ := gd_some h
  refine as_13 C hD hW hin d_Things_add_37 (fun H locs hW => ?_)
  obtain ⟨σ2, e_σ2, h⟩ := lt1_some h
  rw [← e_σ2] at hW
  refine lv_aload_n hx hb d_Things_add_38 rfl (lv_at hl 1 rfl) ?_
  refine gf_Things_15 C hW.1 d_Things_add_39 ?_
  refine lv_iload hx hb d_Things_add_42 (lv_at hl 0 rfl) ?_
  refine lv_iload_n hx hb d_Things_add_44 rfl (lv_at hl 2 rfl) ?_
  refine lv_iload_n hx hb d_Things_add_45 rfl (lv_at hl 3 rfl) ?_
  refine lv_iadd hx hb d_Things_add_46 ?_
  refine lv_iload_n hx hb d_Things_add_47 rfl (lv_at hl 4 rfl) ?_
  refine lv_iadd hx hb d_Things_add_48 ?_
  refine lv_aload_n hx hb d_Things_add_49 rfl (lv_at hl 1 rfl) ?_
  refine gf_Things_9 C hW.1 d_Things_add_50 ?_
  refine lv_iload hx hb d_Things_add_53 (lv_at hl 0 rfl) ?_
  obtain ⟨hin, h⟩ := gd_some h
  refine al_11 C hW.1 hin d_Things_add_55 ?_
  refine lv_isub hx hb d_Things_add_56 ?_
  refine lv_aload_n hx hb d_Things_add_57 rfl (lv_at hl 1 rfl) ?_
  refine gf_Things_18 C hW.1 d_Things_add_58 ?_
  refine lv_iload hx hb d_Things_add_61 (lv_at hl 0 rfl) ?_
  obtain ⟨hin, h⟩ := gd_some h
  refine al_13 C hW.1 hin d_Things_add_63 ?_
  refine lv_isub hx hb d_Things_add_64 ?_
  obtain ⟨hin, h⟩ := gd_some h
  refine as_12 C hD hW hin d_Things_add_65 (fun H locs hW => ?_)
  obtain ⟨σ3, e_σ3, h⟩ := lt1_some h
  rw [← e_σ3] at hW
  refine lv_aload_n hx hb d_Things_add_66 rfl (lv_at hl 1 rfl) ?_
  refine gf_Things_21 C hW.1 d_Things_add_67 ?_
  refine lv_iload hx hb d_Things_add_70 (lv_at hl 0 rfl) ?_
  refine lv_iload hx hb d_Things_add_72 (lv_at hl 5 rfl) ?_
  obtain ⟨hin, h⟩ := gd_some h
  refine as_14 C hD hW hin d_Things_add_74 (fun H locs hW => ?_)
  obtain ⟨σ4, e_σ4, h⟩ := lt1_some h
  rw [← e_σ4] at hW
  refine lv_aload_n hx hb d_Things_add_75 rfl (lv_at hl 1 rfl) ?_
  refine lv_iload hx hb d_Things_add_76 (lv_at hl 0 rfl) ?_
  refine lv_iconst (v := 1) hx hb d_Things_add_78 (by decide) ?_
  refine lv_iadd hx hb d_Things_add_79 ?_
  refine pf_Things_31 C hD hW d_Things_add_80 (fun H locs hW => ?_)
  obtain ⟨σ5, e_σ5, h⟩ := lt1_some h
  rw [← e_σ5] at hW
  refine lv_iload hx hb d_Things_add_83 (lv_at hl 0 rfl) ?_
  exact W.iret hx hb hr (fun t ht _ => qm_i h ht hW) hW.2.2.2 d_Things_add_85
section RC
variable {p : Program} {l : Launch} {e : Env} {R : Room} {s : State} {m : MethodId} {args : Array Value} {below : List Frame} {meth : Method} {c : Code} {H : Heap} {locs : List Loc} {cells slots : Nat} {Q : State → Prop}
variable {cc : ByteArray} {pc : Nat} {ls : Array Slot} {rest : List Value} {G : va_G} {ad : Nat → Nat} {cI cZ : ClassId} {σ : Sg} {own : String}
theorem cl_PM_85 (C : CX "PlaceMoves" cc p s m args c G cI cZ) (hD : DX ad) (hml : c.maxLocals = ls.size) (hW : WS G ad cI cZ s σ H locs) {x1 : Int32} {x2 : Int32} {x3 : Int32} {x4 : Int32} {r : Int32 × Sg} (hg : f_Things_add σ x1 x2 x3 x4 = some r) (hR : 1 + 1 ≤ R.frames ∧ 8 + (6 + 11) + 21 ≤ R.locals) (hrest : (rest.map fun v => v.category).sum ≤ 8) (hd : decode cc pc = .ok (.invokevirtual 85, 3)) (hcs : cells + 0 ≤ R.cells ∧ slots + 0 ≤ R.slots) (kk : ∀ (H1 : Heap) (locs1 : List Loc), WS G ad cI cZ s (r.2) H1 locs1 → W p l e R s m args below meth c H1 locs1 cells slots Q (F0 m (pc + 3) ls (.int r.1 :: rest))) : W p l e R s m args below meth c H locs cells slots Q (F0 m pc ls (.int x4 :: .int x3 :: .int x2 :: .int x1 :: .ref (ad 2) :: rest)) :=
  va_calli (va_runV (As := [.int x1, .int x2, .int x3, .int x4]) (rest := rest) ⟨C.1, C.2.1, hml, C.2.2.1, C.2.2.2.1⟩ (c_Things_add l G ad cI cZ hD σ x1 x2 x3 x4 r hg) (cwV 4 C.2.2.2.1 (wg_V w_344 w_345 w_346 w_3 w_347) rfl rfl rfl (by decide +kernel) hR) ⟨PcX.blind, va_recv C.2.2.2.2.1 hW.1 (ci := 2) (q0 := 2) rfl rfl, fun U hU hZ => ⟨rfl, by rw [hU]; exact hW.1, C.2.2.2.2.warm hZ⟩⟩ rfl rfl rfl rfl (lv_room hrest) hd hcs) hW.2 (fun _ _ z => z) (fun _ z => z) (fun r' u t H1 locs1 ht _ hp hB _ _ hS => by subst hp; exact kk H1 locs1 ⟨by rw [← ht]; exact hB, hS⟩)
end RC
abbrev wl_Rows_add : List Cond := .code ⟨"PlaceMoves$Rows", "add", "(IIII)V"⟩ prog_6_method_3_code 6 none :: WG
set_option maxHeartbeats 4000000 in
set_option maxRecDepth 100000 in
theorem c_Rows_add (l : Launch) (G : va_G) (ad : Nat → Nat) (cI cZ : ClassId) (hD : DX ad) (σ : Sg) (a1 : Int32) (a2 : Int32) (a3 : Int32) (a4 : Int32) (out : Sg) (h : f_Rows_add σ a1 a2 a3 a4 = some out) : Met l ⟨"PlaceMoves$Rows", "add", "(IIII)V"⟩ wl_Rows_add ({ frames := 1, cells := 0, slots := 0, locals := 21 } : Room) (PcX G ad cI cZ σ [.ref (ad 3), .int a1, .int a2, .int a3, .int a4]) (QMv G ad cI cZ out) 0 0 (AX ad) := by
  refine Met.ofW (cc := prog_6_method_3_code) (maxL := 6) (ret := none) (by decide) rfl ?_
  intro p e s m args below meth c s₁ B hml hv
  obtain ⟨rfl, hP, hK⟩ := hv
  have hx := B.exec
  have hb := B.bytes
  have hr := B.returns
  have hts0 := atoms_spec (ws := wl_Rows_add) B.pre
  have hts : ∀ w ∈ WG, w.before _ s = true := fun w hw => hts0 w (List.mem_cons_of_mem _ hw)
  have hown : s.vm.findClass "PlaceMoves$Rows" = some m.cls := findClass_of_methodNamed B.named
  have hlocks := B.notSynchronized
  have C : CX "PlaceMoves$Rows" prog_6_method_3_code p s m _ c G cI cZ := ⟨hx, hb, hown, hts, hK⟩
  have hl := lv_entry ([.ref (ad 3), .int a1, .int a2, .int a3, .int a4]) (n := 6) (Nat.le_of_ble_eq_true rfl)
  rw [lg_entry_eq]
  generalize (lg_sl ([.ref (ad 3), .int a1, .int a2, .int a3, .int a4]) ++ List.replicate (6 - (lg_sl ([.ref (ad 3), .int a1, .int a2, .int a3, .int a4])).length) Slot.unset).toArray = ls at hl ⊢
  have hl : lv_has ls 6 [(0, .ref (ad 3)), (1, .int a1), (2, .int a2), (3, .int a3), (4, .int a4)] := hl
  unfold f_Rows_add at h
  have hW : WS G ad cI cZ s σ s.heap [] := ⟨hP, va_S.rf⟩
  refine lv_iload_n hx hb d_Rows_add_0 rfl (lv_at hl 1 rfl) ?_
  refine lv_aload_n hx hb d_Rows_add_1 rfl (lv_at hl 0 rfl) ?_
  refine gf_Rows_9 C hW.1 d_Rows_add_2 ?_
  refine lv_iload_n hx hb d_Rows_add_5 rfl (lv_at hl 1 rfl) ?_
  obtain ⟨hin, h⟩ := gd_some h
  refine al_17 C hW.1 hin d_Rows_add_6 ?_
  obtain ⟨r1, g_r1, h⟩ := ob_some h
  refine cl_Rows_28 (rest := []) C (hml.trans hl.1.symm) hW.1 g_r1 ⟨Nat.le_of_ble_eq_true rfl, Nat.le_of_ble_eq_true rfl⟩ (Nat.le_of_ble_eq_true rfl) d_Rows_add_7 ⟨Nat.zero_le _, Nat.zero_le _⟩ ?_
  refine lv_istore (lv' := [(5, .int r1), (0, .ref (ad 3)), (1, .int a1), (2, .int a2), (3, .int a3), (4, .int a4)]) hx hb d_Rows_add_10 hl (by decide) rfl (fun ls hl => ?_)
  refine lv_aload_n hx hb d_Rows_add_12 rfl (lv_at hl 1 rfl) ?_
  refine gf_Rows_15 C hW.1 d_Rows_add_13 ?_
  refine lv_iload hx hb d_Rows_add_16 (lv_at hl 0 rfl) ?_
  refine lv_iload_n hx hb d_Rows_add_18 rfl (lv_at hl 3 rfl) ?_
  obtain ⟨hin, h⟩ := gd_some h
  refine as_18 C hD hW hin d_Rows_add_19 (fun H locs hW => ?_)
  obtain ⟨σ2, e_σ2, h⟩ := lt1_some h
  rw [← e_σ2] at hW
  refine lv_aload_n hx hb d_Rows_add_20 rfl (lv_at hl 1 rfl) ?_
  refine gf_Rows_18 C hW.1 d_Rows_add_21 ?_
  refine lv_iload hx hb d_Rows_add_24 (lv_at hl 0 rfl) ?_
  refine lv_iload_n hx hb d_Rows_add_26 rfl (lv_at hl 4 rfl) ?_
  obtain ⟨hin, h⟩ := gd_some h
  refine as_19 C hD hW hin d_Rows_add_27 (fun H locs hW => ?_)
  obtain ⟨σ3, e_σ3, h⟩ := lt1_some h
  rw [← e_σ3] at hW
  refine lv_aload_n hx hb d_Rows_add_28 rfl (lv_at hl 1 rfl) ?_
  refine gf_Rows_21 C hW.1 d_Rows_add_29 ?_
  refine lv_iload hx hb d_Rows_add_32 (lv_at hl 0 rfl) ?_
  refine lv_iload hx hb d_Rows_add_34 (lv_at hl 5 rfl) ?_
  obtain ⟨hin, h⟩ := gd_some h
  refine as_20 C hD hW hin d_Rows_add_36 (fun H locs hW => ?_)
  obtain ⟨σ4, e_σ4, h⟩ := lt1_some h
  rw [← e_σ4] at hW
  refine lv_aload_n hx hb d_Rows_add_37 rfl (lv_at hl 1 rfl) ?_
  refine gf_Rows_9 C hW.1 d_Rows_add_38 ?_
  refine lv_iload_n hx hb d_Rows_add_41 rfl (lv_at hl 2 rfl) ?_
  refine lv_dup2_11 hx hb d_Rows_add_42 rfl rfl ?_
  obtain ⟨hin, h⟩ := gd_some h
  refine al_17 C hW.1 hin d_Rows_add_43 ?_
  refine lv_iconst (v := 1) hx hb d_Rows_add_44 (by decide) ?_
  refine lv_iadd hx hb d_Rows_add_45 ?_
  obtain ⟨hin, h⟩ := gd_some h
  refine as_17 C hD hW hin d_Rows_add_46 (fun H locs hW => ?_)
  obtain ⟨σ5, e_σ5, h⟩ := lt1_some h
  rw [← e_σ5] at hW
  refine lv_aload_n hx hb d_Rows_add_47 rfl (lv_at hl 1 rfl) ?_
  refine lv_dup hx hb d_Rows_add_48 rfl ?_
  refine gf_Rows_24 C hW.1 d_Rows_add_49 ?_
  refine lv_iconst (v := 1) hx hb d_Rows_add_52 (by decide) ?_
  refine lv_iadd hx hb d_Rows_add_53 ?_
  refine pf_Rows_24 C hD hW d_Rows_add_54 (fun H locs hW => ?_)
  obtain ⟨σ6, e_σ6, h⟩ := lt1_some h
  rw [← e_σ6] at hW
  exact W.vret hx hb hr (fun t ht _ => qm_v h ht hW) hW.2.2.2 d_Rows_add_57
section RC
variable {p : Program} {l : Launch} {e : Env} {R : Room} {s : State} {m : MethodId} {args : Array Value} {below : List Frame} {meth : Method} {c : Code} {H : Heap} {locs : List Loc} {cells slots : Nat} {Q : State → Prop}
variable {cc : ByteArray} {pc : Nat} {ls : Array Slot} {rest : List Value} {G : va_G} {ad : Nat → Nat} {cI cZ : ClassId} {σ : Sg} {own : String}
theorem cl_PM_219 (C : CX "PlaceMoves" cc p s m args c G cI cZ) (hD : DX ad) (hml : c.maxLocals = ls.size) (hW : WS G ad cI cZ s σ H locs) {x1 : Int32} {x2 : Int32} {x3 : Int32} {x4 : Int32} {r : Sg} (hg : f_Rows_add σ x1 x2 x3 x4 = some r) (hR : 1 + 1 ≤ R.frames ∧ 8 + (6 + 11) + 21 ≤ R.locals) (hrest : (rest.map fun v => v.category).sum ≤ 8) (hd : decode cc pc = .ok (.invokevirtual 219, 3)) (hcs : cells + 0 ≤ R.cells ∧ slots + 0 ≤ R.slots) (kk : ∀ (H1 : Heap) (locs1 : List Loc), WS G ad cI cZ s (r) H1 locs1 → W p l e R s m args below meth c H1 locs1 cells slots Q (F0 m (pc + 3) ls rest)) : W p l e R s m args below meth c H locs cells slots Q (F0 m pc ls (.int x4 :: .int x3 :: .int x2 :: .int x1 :: .ref (ad 3) :: rest)) :=
  va_callv (va_runV (As := [.int x1, .int x2, .int x3, .int x4]) (rest := rest) ⟨C.1, C.2.1, hml, C.2.2.1, C.2.2.2.1⟩ (c_Rows_add l G ad cI cZ hD σ x1 x2 x3 x4 r hg) (cwV 4 C.2.2.2.1 (wg_V w_422 w_423 w_424 w_4 w_425) rfl rfl rfl (by decide +kernel) hR) ⟨PcX.blind, va_recv C.2.2.2.2.1 hW.1 (ci := 3) (q0 := 3) rfl rfl, fun U hU hZ => ⟨rfl, by rw [hU]; exact hW.1, C.2.2.2.2.warm hZ⟩⟩ rfl rfl rfl rfl (lv_room hrest) hd hcs) hW.2 (fun _ _ z => z) (fun _ z => z) (fun u t H1 locs1 ht _ _ hB _ _ hS => kk H1 locs1 ⟨by rw [← ht]; exact hB, hS⟩)
end RC
abbrev wl_PM_weighAt : List Cond := .code ⟨"PlaceMoves", "weighAt", "(I)V"⟩ prog_1_method_34_code 3 none :: WG
set_option maxHeartbeats 4000000 in
set_option maxRecDepth 100000 in
theorem c_PM_weighAt (l : Launch) (G : va_G) (ad : Nat → Nat) (cI cZ : ClassId) (hD : DX ad) (σ : Sg) (a1 : Int32) (out : Sg) (h : f_PM_weighAt σ a1 = some out) : Met l ⟨"PlaceMoves", "weighAt", "(I)V"⟩ wl_PM_weighAt ({ frames := 3, cells := 0, slots := 0, locals := 70 } : Room) (PcX G ad cI cZ σ [.ref (ad 0), .int a1]) (QMv G ad cI cZ out) 0 0 (AX ad) := by
  refine Met.ofW (cc := prog_1_method_34_code) (maxL := 3) (ret := none) (by decide) rfl ?_
  intro p e s m args below meth c s₁ B hml hv
  obtain ⟨rfl, hP, hK⟩ := hv
  have hx := B.exec
  have hb := B.bytes
  have hr := B.returns
  have hts0 := atoms_spec (ws := wl_PM_weighAt) B.pre
  have hts : ∀ w ∈ WG, w.before _ s = true := fun w hw => hts0 w (List.mem_cons_of_mem _ hw)
  have hown : s.vm.findClass "PlaceMoves" = some m.cls := findClass_of_methodNamed B.named
  have hlocks := B.notSynchronized
  have C : CX "PlaceMoves" prog_1_method_34_code p s m _ c G cI cZ := ⟨hx, hb, hown, hts, hK⟩
  have hl := lv_entry ([.ref (ad 0), .int a1]) (n := 3) (Nat.le_of_ble_eq_true rfl)
  rw [lg_entry_eq]
  generalize (lg_sl ([.ref (ad 0), .int a1]) ++ List.replicate (3 - (lg_sl ([.ref (ad 0), .int a1])).length) Slot.unset).toArray = ls at hl ⊢
  have hl : lv_has ls 3 [(0, .ref (ad 0)), (1, .int a1)] := hl
  unfold f_PM_weighAt at h
  have hW : WS G ad cI cZ s σ s.heap [] := ⟨hP, va_S.rf⟩
  refine lv_iconst (v := 0) hx hb d_PM_weighAt_0 (by decide) ?_
  refine lv_istore_n (lv' := [(2, .int 0), (0, .ref (ad 0)), (1, .int a1)]) hx hb d_PM_weighAt_1 rfl hl (by decide) rfl (fun ls hl => ?_)
  have k2 : ∀ (n2 : Nat) (x1 : Int32) (x2 : Int32) (σ : Sg) (h : L_PM_weighAt_2 n2 x1 x2 σ = some out) (H : Heap) (locs : List Loc) (hW : WS G ad cI cZ s σ H locs) (ls : Array Slot) (hl : lv_has ls 3 [(0, .ref (ad 0)), (1, .int x1), (2, .int x2)]), W p l e (headSpec wl_PM_weighAt ({ frames := 3, cells := 0, slots := 0, locals := 70 } : Room)).room s m (([.ref (ad 0), .int a1] : List Value).toArray) below meth c H locs 0 0 (MQ below (QMv G ad cI cZ out) (([.ref (ad 0), .int a1] : List Value).toArray) s 0 0 (AX ad)) (F0 m 2 ls []) := by
    intro n2
    induction n2 with
    | zero =>
      intro x1 x2 σ h
      exact absurd h (by intro z; cases z)
    | succ n2 ih2 =>
      intro x1 x2 σ h H locs hW ls hl
      replace h : B_PM_weighAt_2 (L_PM_weighAt_2 n2) x1 x2 σ = some out := h
      unfold B_PM_weighAt_2 at h
      refine lv_iload_n hx hb d_PM_weighAt_2 rfl (lv_at hl 2 rfl) ?_
      refine lv_aload_n hx hb d_PM_weighAt_3 rfl (lv_at hl 0 rfl) ?_
      refine gf_PM_19 C hW.1 d_PM_weighAt_4 ?_
      refine gf_PM_84 C hW.1 d_PM_weighAt_7 ?_
      refine lv_icmp_ge (tgt := 38) hx hb d_PM_weighAt_10 (by decide) (fun c1 => ?_) (fun c1 => ?_)
      · rw [if_pos c1] at h
        refine lv_iconst (v := 0) hx hb d_PM_weighAt_38 (by decide) ?_
        refine lv_istore_n (lv' := [(2, .int 0), (0, .ref (ad 0)), (1, .int x1)]) hx hb d_PM_weighAt_39 rfl hl (by decide) rfl (fun ls hl => ?_)
        have k40 : ∀ (n40 : Nat) (x1 : Int32) (x2 : Int32) (σ : Sg) (h : L_PM_weighAt_40 n40 x1 x2 σ = some out) (H : Heap) (locs : List Loc) (hW : WS G ad cI cZ s σ H locs) (ls : Array Slot) (hl : lv_has ls 3 [(0, .ref (ad 0)), (1, .int x1), (2, .int x2)]), W p l e (headSpec wl_PM_weighAt ({ frames := 3, cells := 0, slots := 0, locals := 70 } : Room)).room s m (([.ref (ad 0), .int a1] : List Value).toArray) below meth c H locs 0 0 (MQ below (QMv G ad cI cZ out) (([.ref (ad 0), .int a1] : List Value).toArray) s 0 0 (AX ad)) (F0 m 40 ls []) := by
          intro n40
          induction n40 with
          | zero =>
            intro x1 x2 σ h
            exact absurd h (by intro z; cases z)
          | succ n40 ih40 =>
            intro x1 x2 σ h H locs hW ls hl
            replace h : B_PM_weighAt_40 (L_PM_weighAt_40 n40) x1 x2 σ = some out := h
            unfold B_PM_weighAt_40 at h
            refine lv_iload_n hx hb d_PM_weighAt_40 rfl (lv_at hl 2 rfl) ?_
            refine lv_aload_n hx hb d_PM_weighAt_41 rfl (lv_at hl 0 rfl) ?_
            refine gf_PM_40 C hW.1 d_PM_weighAt_42 ?_
            refine gf_PM_164 C hW.1 d_PM_weighAt_45 ?_
            refine lv_icmp_ge (tgt := 102) hx hb d_PM_weighAt_48 (by decide) (fun c5 => ?_) (fun c5 => ?_)
            · rw [if_pos c5] at h
              exact W.vret hx hb hr (fun t ht _ => qm_v h ht hW) hW.2.2.2 d_PM_weighAt_102
            · rw [if_neg c5] at h
              refine lv_aload_n hx hb d_PM_weighAt_51 rfl (lv_at hl 0 rfl) ?_
              refine gf_PM_40 C hW.1 d_PM_weighAt_52 ?_
              refine lv_iload_n hx hb d_PM_weighAt_55 rfl (lv_at hl 2 rfl) ?_
              refine lv_iload_n hx hb d_PM_weighAt_56 rfl (lv_at hl 1 rfl) ?_
              obtain ⟨r6, g_r6, h⟩ := ob_some h
              refine cl_PM_234 (rest := []) C (hml.trans hl.1.symm) hW.1 g_r6 ⟨Nat.le_of_ble_eq_true rfl, Nat.le_of_ble_eq_true rfl⟩ (Nat.le_of_ble_eq_true rfl) d_PM_weighAt_57 ⟨Nat.zero_le _, Nat.zero_le _⟩ ?_
              refine lv_if_eq (tgt := 96) hx hb d_PM_weighAt_60 (by decide) (fun c7 => ?_) (fun c7 => ?_)
              · rw [if_pos c7] at h
                refine lv_iinc (v := x2 + 1) (lv' := [(2, .int (x2 + 1)), (0, .ref (ad 0)), (1, .int x1)]) hx hb d_PM_weighAt_96 hl (k := 2) rfl rfl (by decide) rfl (fun ls hl => ?_)
                refine lv_goto (tgt := 40) hx hb d_PM_weighAt_99 (by decide) ?_
                exact ih40 x1 (x2 + 1) σ h _ _ hW _ (lv_sub hl [1, 2, 0] rfl)
              · rw [if_neg c7] at h
                refine lv_aload_n hx hb d_PM_weighAt_63 rfl (lv_at hl 0 rfl) ?_
                refine gf_PM_55 C hW.1 d_PM_weighAt_64 ?_
                refine lv_aload_n hx hb d_PM_weighAt_67 rfl (lv_at hl 0 rfl) ?_
                refine gf_PM_40 C hW.1 d_PM_weighAt_68 ?_
                refine gf_PM_235 C hW.1 d_PM_weighAt_71 ?_
                refine lv_iload_n hx hb d_PM_weighAt_74 rfl (lv_at hl 2 rfl) ?_
                obtain ⟨hin, h⟩ := gd_some h
                refine al_25 C hW.1 hin d_PM_weighAt_75 ?_
                refine lv_dup2_11 hx hb d_PM_weighAt_76 rfl rfl ?_
                obtain ⟨hin, h⟩ := gd_some h
                refine al_8 C hW.1 hin d_PM_weighAt_77 ?_
                refine lv_aload_n hx hb d_PM_weighAt_78 rfl (lv_at hl 0 rfl) ?_
                refine gf_PM_10 C hW.1 d_PM_weighAt_79 ?_
                refine lv_aload_n hx hb d_PM_weighAt_82 rfl (lv_at hl 0 rfl) ?_
                refine gf_PM_40 C hW.1 d_PM_weighAt_83 ?_
                refine gf_PM_238 C hW.1 d_PM_weighAt_86 ?_
                refine lv_iload_n hx hb d_PM_weighAt_89 rfl (lv_at hl 2 rfl) ?_
                obtain ⟨hin, h⟩ := gd_some h
                refine al_26 C hW.1 hin d_PM_weighAt_90 ?_
                obtain ⟨r8, g_r8, h⟩ := ob_some h
                refine cl_PM_231 (rest := [.int (σ 8 (Int32.toNatClampNeg (σ 25 (Int32.toNatClampNeg x2)))), .int (σ 25 (Int32.toNatClampNeg x2)), .ref (ad 8)]) C (hml.trans hl.1.symm) hW.1 g_r8 ⟨Nat.le_of_ble_eq_true rfl, Nat.le_of_ble_eq_true rfl⟩ (Nat.le_of_ble_eq_true rfl) d_PM_weighAt_91 ⟨Nat.zero_le _, Nat.zero_le _⟩ ?_
                refine lv_ior hx hb d_PM_weighAt_94 ?_
                obtain ⟨hin, h⟩ := gd_some h
                refine as_8 C hD hW hin d_PM_weighAt_95 (fun H locs hW => ?_)
                obtain ⟨σ9, e_σ9, h⟩ := lt1_some h
                rw [← e_σ9] at hW
                refine lv_iinc (v := x2 + 1) (lv' := [(2, .int (x2 + 1)), (0, .ref (ad 0)), (1, .int x1)]) hx hb d_PM_weighAt_96 hl (k := 2) rfl rfl (by decide) rfl (fun ls hl => ?_)
                refine lv_goto (tgt := 40) hx hb d_PM_weighAt_99 (by decide) ?_
                exact ih40 x1 (x2 + 1) σ9 h _ _ hW _ (lv_sub hl [1, 2, 0] rfl)
        exact k40 _ x1 0 σ h _ _ hW _ (lv_sub hl [1, 2, 0] rfl)
      · rw [if_neg c1] at h
        refine lv_aload_n hx hb d_PM_weighAt_13 rfl (lv_at hl 0 rfl) ?_
        refine gf_PM_55 C hW.1 d_PM_weighAt_14 ?_
        refine lv_iload_n hx hb d_PM_weighAt_17 rfl (lv_at hl 2 rfl) ?_
        refine lv_aload_n hx hb d_PM_weighAt_18 rfl (lv_at hl 0 rfl) ?_
        refine gf_PM_10 C hW.1 d_PM_weighAt_19 ?_
        refine lv_aload_n hx hb d_PM_weighAt_22 rfl (lv_at hl 0 rfl) ?_
        refine lv_iload_n hx hb d_PM_weighAt_23 rfl (lv_at hl 2 rfl) ?_
        refine lv_iload_n hx hb d_PM_weighAt_24 rfl (lv_at hl 1 rfl) ?_
        obtain ⟨r2, g_r2, h⟩ := ob_some h
        refine cl_PM_105 (rest := [.ref (ad 1), .int x2, .ref (ad 8)]) C (hml.trans hl.1.symm) hW.1 g_r2 ⟨Nat.le_of_ble_eq_true rfl, Nat.le_of_ble_eq_true rfl⟩ (Nat.le_of_ble_eq_true rfl) d_PM_weighAt_25 ⟨Nat.zero_le _, Nat.zero_le _⟩ ?_
        obtain ⟨r3, g_r3, h⟩ := ob_some h
        refine cl_PM_231 (rest := [.int x2, .ref (ad 8)]) C (hml.trans hl.1.symm) hW.1 g_r3 ⟨Nat.le_of_ble_eq_true rfl, Nat.le_of_ble_eq_true rfl⟩ (Nat.le_of_ble_eq_true rfl) d_PM_weighAt_28 ⟨Nat.zero_le _, Nat.zero_le _⟩ ?_
        obtain ⟨hin, h⟩ := gd_some h
        refine as_8 C hD hW hin d_PM_weighAt_31 (fun H locs hW => ?_)
        obtain ⟨σ4, e_σ4, h⟩ := lt1_some h
        rw [← e_σ4] at hW
        refine lv_iinc (v := x2 + 1) (lv' := [(2, .int (x2 + 1)), (0, .ref (ad 0)), (1, .int x1)]) hx hb d_PM_weighAt_32 hl (k := 2) rfl rfl (by decide) rfl (fun ls hl => ?_)
        refine lv_goto (tgt := 2) hx hb d_PM_weighAt_35 (by decide) ?_
        exact ih2 x1 (x2 + 1) σ4 h _ _ hW _ (lv_sub hl [1, 2, 0] rfl)
  exact k2 _ a1 0 σ h _ _ hW _ (lv_sub hl [1, 2, 0] rfl)
section RC
variable {p : Program} {l : Launch} {e : Env} {R : Room} {s : State} {m : MethodId} {args : Array Value} {below : List Frame} {meth : Method} {c : Code} {H : Heap} {locs : List Loc} {cells slots : Nat} {Q : State → Prop}
variable {cc : ByteArray} {pc : Nat} {ls : Array Slot} {rest : List Value} {G : va_G} {ad : Nat → Nat} {cI cZ : ClassId} {σ : Sg} {own : String}
theorem cl_PM_174 (C : CX "PlaceMoves" cc p s m args c G cI cZ) (hD : DX ad) (hml : c.maxLocals = ls.size) (hW : WS G ad cI cZ s σ H locs) {x1 : Int32} {r : Sg} (hg : f_PM_weighAt σ x1 = some r) (hR : 3 + 1 ≤ R.frames ∧ 8 + (3 + 11) + 70 ≤ R.locals) (hrest : (rest.map fun v => v.category).sum ≤ 8) (hd : decode cc pc = .ok (.invokevirtual 174, 3)) (hcs : cells + 0 ≤ R.cells ∧ slots + 0 ≤ R.slots) (kk : ∀ (H1 : Heap) (locs1 : List Loc), WS G ad cI cZ s (r) H1 locs1 → W p l e R s m args below meth c H1 locs1 cells slots Q (F0 m (pc + 3) ls rest)) : W p l e R s m args below meth c H locs cells slots Q (F0 m pc ls (.int x1 :: .ref (ad 0) :: rest)) :=
  va_callv (va_runV (As := [.int x1]) (rest := rest) ⟨C.1, C.2.1, hml, C.2.2.1, C.2.2.2.1⟩ (c_PM_weighAt l G ad cI cZ hD σ x1 r hg) (cwV 1 C.2.2.2.1 (wg_V w_434 w_436 ws_10 w_1 w_437) rfl rfl rfl (by decide +kernel) hR) ⟨PcX.blind, va_recv C.2.2.2.2.1 hW.1 (ci := 0) (q0 := 0) rfl rfl, fun U hU hZ => ⟨rfl, by rw [hU]; exact hW.1, C.2.2.2.2.warm hZ⟩⟩ rfl rfl rfl rfl (lv_room hrest) hd hcs) hW.2 (fun _ _ z => z) (fun _ z => z) (fun u t H1 locs1 ht _ _ hB _ _ hS => kk H1 locs1 ⟨by rw [← ht]; exact hB, hS⟩)
end RC
abbrev wl_PM_loadsHoldAt : List Cond := .code ⟨"PlaceMoves", "loadsHoldAt", "(II)Z"⟩ prog_1_method_33_code 4 (some FieldType.boolean) :: WG
set_option maxHeartbeats 4000000 in
set_option maxRecDepth 100000 in
theorem c_PM_loadsHoldAt (l : Launch) (G : va_G) (ad : Nat → Nat) (cI cZ : ClassId) (hD : DX ad) (σ : Sg) (a1 : Int32) (a2 : Int32) (out : Int32 × Sg) (h : f_PM_loadsHoldAt σ a1 a2 = some out) : Met l ⟨"PlaceMoves", "loadsHoldAt", "(II)Z"⟩ wl_PM_loadsHoldAt ({ frames := 4, cells := 0, slots := 0, locals := 92 } : Room) (PcX G ad cI cZ σ [.ref (ad 0), .int a1, .int a2]) (QMi G ad cI cZ out) 0 0 (AX ad) := by
  refine Met.ofW (cc := prog_1_method_33_code) (maxL := 4) (ret := (some FieldType.boolean)) (by decide) rfl ?_
  intro p e s m args below meth c s₁ B hml hv
  obtain ⟨rfl, hP, hK⟩ := hv
  have hx := B.exec
  have hb := B.bytes
  have hr := B.returns
  have hts0 := atoms_spec (ws := wl_PM_loadsHoldAt) B.pre
  have hts : ∀ w ∈ WG, w.before _ s = true := fun w hw => hts0 w (List.mem_cons_of_mem _ hw)
  have hown : s.vm.findClass "PlaceMoves" = some m.cls := findClass_of_methodNamed B.named
  have hlocks := B.notSynchronized
  have C : CX "PlaceMoves" prog_1_method_33_code p s m _ c G cI cZ := ⟨hx, hb, hown, hts, hK⟩
  have hl := lv_entry ([.ref (ad 0), .int a1, .int a2]) (n := 4) (Nat.le_of_ble_eq_true rfl)
  rw [lg_entry_eq]
  generalize (lg_sl ([.ref (ad 0), .int a1, .int a2]) ++ List.replicate (4 - (lg_sl ([.ref (ad 0), .int a1, .int a2])).length) Slot.unset).toArray = ls at hl ⊢
  have hl : lv_has ls 4 [(0, .ref (ad 0)), (1, .int a1), (2, .int a2)] := hl
  unfold f_PM_loadsHoldAt at h
  have hW : WS G ad cI cZ s σ s.heap [] := ⟨hP, va_S.rf⟩
  refine lv_aload_n hx hb d_PM_loadsHoldAt_0 rfl (lv_at hl 0 rfl) ?_
  refine lv_iload_n hx hb d_PM_loadsHoldAt_1 rfl (lv_at hl 2 rfl) ?_
  obtain ⟨r1, g_r1, h⟩ := ob_some h
  refine cl_PM_174 (rest := []) C hD (hml.trans hl.1.symm) hW g_r1 ⟨Nat.le_of_ble_eq_true rfl, Nat.le_of_ble_eq_true rfl⟩ (Nat.le_of_ble_eq_true rfl) d_PM_loadsHoldAt_2 ⟨Nat.zero_le _, Nat.zero_le _⟩ (fun H locs hW => ?_)
  refine lv_iconst (v := 0) hx hb d_PM_loadsHoldAt_5 (by decide) ?_
  refine lv_istore_n (lv' := [(3, .int 0), (0, .ref (ad 0)), (1, .int a1), (2, .int a2)]) hx hb d_PM_loadsHoldAt_6 rfl hl (by decide) rfl (fun ls hl => ?_)
  have k7 : ∀ (n7 : Nat) (x1 : Int32) (x3 : Int32) (σ : Sg) (h : L_PM_loadsHoldAt_7 n7 x1 x3 σ = some out) (H : Heap) (locs : List Loc) (hW : WS G ad cI cZ s σ H locs) (ls : Array Slot) (hl : lv_has ls 4 [(0, .ref (ad 0)), (1, .int x1), (3, .int x3)]), W p l e (headSpec wl_PM_loadsHoldAt ({ frames := 4, cells := 0, slots := 0, locals := 92 } : Room)).room s m (([.ref (ad 0), .int a1, .int a2] : List Value).toArray) below meth c H locs 0 0 (MQ below (QMi G ad cI cZ out) (([.ref (ad 0), .int a1, .int a2] : List Value).toArray) s 0 0 (AX ad)) (F0 m 7 ls []) := by
    intro n7
    induction n7 with
    | zero =>
      intro x1 x3 σ h
      exact absurd h (by intro z; cases z)
    | succ n7 ih7 =>
      intro x1 x3 σ h H locs hW ls hl
      replace h : B_PM_loadsHoldAt_7 (L_PM_loadsHoldAt_7 n7) x1 x3 σ = some out := h
      unfold B_PM_loadsHoldAt_7 at h
      refine lv_iload_n hx hb d_PM_loadsHoldAt_7 rfl (lv_at hl 2 rfl) ?_
      refine lv_aload_n hx hb d_PM_loadsHoldAt_8 rfl (lv_at hl 0 rfl) ?_
      refine gf_PM_10 C hW.1 d_PM_loadsHoldAt_9 ?_
      refine gf_PM_72 C hW.1 d_PM_loadsHoldAt_12 ?_
      refine lv_icmp_ge (tgt := 55) hx hb d_PM_loadsHoldAt_15 (by decide) (fun c2 => ?_) (fun c2 => ?_)
      · rw [if_pos c2] at h
        refine lv_iconst (v := 1) hx hb d_PM_loadsHoldAt_55 (by decide) ?_
        exact W.zret hx hb hr rfl (fun t ht _ => qm_i h ht hW) hW.2.2.2 d_PM_loadsHoldAt_56
      · rw [if_neg c2] at h
        refine lv_aload_n hx hb d_PM_loadsHoldAt_18 rfl (lv_at hl 0 rfl) ?_
        refine gf_PM_10 C hW.1 d_PM_loadsHoldAt_19 ?_
        refine lv_iload_n hx hb d_PM_loadsHoldAt_22 rfl (lv_at hl 1 rfl) ?_
        refine lv_iload_n hx hb d_PM_loadsHoldAt_23 rfl (lv_at hl 2 rfl) ?_
        obtain ⟨r3, g_r3, h⟩ := ob_some h
        refine cl_PM_216 (rest := []) C (hml.trans hl.1.symm) hW.1 g_r3 ⟨Nat.le_of_ble_eq_true rfl, Nat.le_of_ble_eq_true rfl⟩ (Nat.le_of_ble_eq_true rfl) d_PM_loadsHoldAt_24 ⟨Nat.zero_le _, Nat.zero_le _⟩ ?_
        refine lv_if_eq (tgt := 49) hx hb d_PM_loadsHoldAt_27 (by decide) (fun c4 => ?_) (fun c4 => ?_)
        · rw [if_pos c4] at h
          refine lv_iinc (v := x3 + 1) (lv' := [(3, .int (x3 + 1)), (0, .ref (ad 0)), (1, .int x1)]) hx hb d_PM_loadsHoldAt_49 hl (k := 2) rfl rfl (by decide) rfl (fun ls hl => ?_)
          refine lv_goto (tgt := 7) hx hb d_PM_loadsHoldAt_52 (by decide) ?_
          exact ih7 x1 (x3 + 1) σ h _ _ hW _ (lv_sub hl [1, 2, 0] rfl)
        · rw [if_neg c4] at h
          refine lv_aload_n hx hb d_PM_loadsHoldAt_30 rfl (lv_at hl 0 rfl) ?_
          refine lv_iload_n hx hb d_PM_loadsHoldAt_31 rfl (lv_at hl 2 rfl) ?_
          obtain ⟨r5, g_r5, h⟩ := ob_some h
          refine cl_PM_177 (rest := []) C (hml.trans hl.1.symm) hW.1 g_r5 ⟨Nat.le_of_ble_eq_true rfl, Nat.le_of_ble_eq_true rfl⟩ (Nat.le_of_ble_eq_true rfl) d_PM_loadsHoldAt_32 ⟨Nat.zero_le _, Nat.zero_le _⟩ ?_
          refine lv_aload_n hx hb d_PM_loadsHoldAt_35 rfl (lv_at hl 0 rfl) ?_
          refine gf_PM_10 C hW.1 d_PM_loadsHoldAt_36 ?_
          refine gf_PM_228 C hW.1 d_PM_loadsHoldAt_39 ?_
          refine lv_iload_n hx hb d_PM_loadsHoldAt_42 rfl (lv_at hl 2 rfl) ?_
          obtain ⟨hin, h⟩ := gd_some h
          refine al_9 C hW.1 hin d_PM_loadsHoldAt_43 ?_
          refine lv_icmp_le (tgt := 49) hx hb d_PM_loadsHoldAt_44 (by decide) (fun c6 => ?_) (fun c6 => ?_)
          · rw [if_pos c6] at h
            refine lv_iinc (v := x3 + 1) (lv' := [(3, .int (x3 + 1)), (0, .ref (ad 0)), (1, .int x1)]) hx hb d_PM_loadsHoldAt_49 hl (k := 2) rfl rfl (by decide) rfl (fun ls hl => ?_)
            refine lv_goto (tgt := 7) hx hb d_PM_loadsHoldAt_52 (by decide) ?_
            exact ih7 x1 (x3 + 1) σ h _ _ hW _ (lv_sub hl [1, 2, 0] rfl)
          · rw [if_neg c6] at h
            refine lv_iconst (v := 0) hx hb d_PM_loadsHoldAt_47 (by decide) ?_
            exact W.zret hx hb hr rfl (fun t ht _ => qm_i h ht hW) hW.2.2.2 d_PM_loadsHoldAt_48
  exact k7 _ a1 0 r1 h _ _ hW _ (lv_sub hl [1, 2, 0] rfl)
section RC
variable {p : Program} {l : Launch} {e : Env} {R : Room} {s : State} {m : MethodId} {args : Array Value} {below : List Frame} {meth : Method} {c : Code} {H : Heap} {locs : List Loc} {cells slots : Nat} {Q : State → Prop}
variable {cc : ByteArray} {pc : Nat} {ls : Array Slot} {rest : List Value} {G : va_G} {ad : Nat → Nat} {cI cZ : ClassId} {σ : Sg} {own : String}
theorem cl_PM_222 (C : CX "PlaceMoves" cc p s m args c G cI cZ) (hD : DX ad) (hml : c.maxLocals = ls.size) (hW : WS G ad cI cZ s σ H locs) {x1 : Int32} {x2 : Int32} {r : Int32 × Sg} (hg : f_PM_loadsHoldAt σ x1 x2 = some r) (hR : 4 + 1 ≤ R.frames ∧ 8 + (4 + 11) + 92 ≤ R.locals) (hrest : (rest.map fun v => v.category).sum ≤ 8) (hd : decode cc pc = .ok (.invokevirtual 222, 3)) (hcs : cells + 0 ≤ R.cells ∧ slots + 0 ≤ R.slots) (kk : ∀ (H1 : Heap) (locs1 : List Loc), WS G ad cI cZ s (r.2) H1 locs1 → W p l e R s m args below meth c H1 locs1 cells slots Q (F0 m (pc + 3) ls (.int r.1 :: rest))) : W p l e R s m args below meth c H locs cells slots Q (F0 m pc ls (.int x2 :: .int x1 :: .ref (ad 0) :: rest)) :=
  va_calli (va_runV (As := [.int x1, .int x2]) (rest := rest) ⟨C.1, C.2.1, hml, C.2.2.1, C.2.2.2.1⟩ (c_PM_loadsHoldAt l G ad cI cZ hD σ x1 x2 r hg) (cwV 2 C.2.2.2.1 (wg_V w_430 w_432 ws_9 w_1 w_433) rfl rfl rfl (by decide +kernel) hR) ⟨PcX.blind, va_recv C.2.2.2.2.1 hW.1 (ci := 0) (q0 := 0) rfl rfl, fun U hU hZ => ⟨rfl, by rw [hU]; exact hW.1, C.2.2.2.2.warm hZ⟩⟩ rfl rfl rfl rfl (lv_room hrest) hd hcs) hW.2 (fun _ _ z => z) (fun _ z => z) (fun r' u t H1 locs1 ht _ hp hB _ _ hS => by subst hp; exact kk H1 locs1 ⟨by rw [← ht]; exact hB, hS⟩)
end RC
abbrev wl_PM_loadsHold : List Cond := .code ⟨"PlaceMoves", "loadsHold", "(III)Z"⟩ prog_1_method_32_code 6 (some FieldType.boolean) :: WG
set_option maxHeartbeats 4000000 in
set_option maxRecDepth 100000 in
theorem c_PM_loadsHold (l : Launch) (G : va_G) (ad : Nat → Nat) (cI cZ : ClassId) (hD : DX ad) (σ : Sg) (a1 : Int32) (a2 : Int32) (a3 : Int32) (out : Int32 × Sg) (h : f_PM_loadsHold σ a1 a2 a3 = some out) : Met l ⟨"PlaceMoves", "loadsHold", "(III)Z"⟩ wl_PM_loadsHold ({ frames := 5, cells := 0, slots := 0, locals := 115 } : Room) (PcX G ad cI cZ σ [.ref (ad 0), .int a1, .int a2, .int a3]) (QMi G ad cI cZ out) 0 0 (AX ad) := by
  refine Met.ofW (cc := prog_1_method_32_code) (maxL := 6) (ret := (some FieldType.boolean)) (by decide) rfl ?_
  intro p e s m args below meth c s₁ B hml hv
  obtain ⟨rfl, hP, hK⟩ := hv
  have hx := B.exec
  have hb := B.bytes
  have hr := B.returns
  have hts0 := atoms_spec (ws := wl_PM_loadsHold) B.pre
  have hts : ∀ w ∈ WG, w.before _ s = true := fun w hw => hts0 w (List.mem_cons_of_mem _ hw)
  have hown : s.vm.findClass "PlaceMoves" = some m.cls := findClass_of_methodNamed B.named
  have hlocks := B.notSynchronized
  have C : CX "PlaceMoves" prog_1_method_32_code p s m _ c G cI cZ := ⟨hx, hb, hown, hts, hK⟩
  have hl := lv_entry ([.ref (ad 0), .int a1, .int a2, .int a3]) (n := 6) (Nat.le_of_ble_eq_true rfl)
  rw [lg_entry_eq]
  generalize (lg_sl ([.ref (ad 0), .int a1, .int a2, .int a3]) ++ List.replicate (6 - (lg_sl ([.ref (ad 0), .int a1, .int a2, .int a3])).length) Slot.unset).toArray = ls at hl ⊢
  have hl : lv_has ls 6 [(0, .ref (ad 0)), (1, .int a1), (2, .int a2), (3, .int a3)] := hl
  unfold f_PM_loadsHold at h
  have hW : WS G ad cI cZ s σ s.heap [] := ⟨hP, va_S.rf⟩
  refine lv_aload_n hx hb d_PM_loadsHold_0 rfl (lv_at hl 0 rfl) ?_
  refine lv_iload_n hx hb d_PM_loadsHold_1 rfl (lv_at hl 1 rfl) ?_
  refine lv_iload_n hx hb d_PM_loadsHold_2 rfl (lv_at hl 2 rfl) ?_
  obtain ⟨r1, g_r1, h⟩ := ob_some h
  refine cl_PM_222 (rest := []) C hD (hml.trans hl.1.symm) hW g_r1 ⟨Nat.le_of_ble_eq_true rfl, Nat.le_of_ble_eq_true rfl⟩ (Nat.le_of_ble_eq_true rfl) d_PM_loadsHold_3 ⟨Nat.zero_le _, Nat.zero_le _⟩ (fun H locs hW => ?_)
  refine lv_if_ne (tgt := 11) hx hb d_PM_loadsHold_6 (by decide) (fun c2 => ?_) (fun c2 => ?_)
  · rw [if_neg c2] at h
    refine lv_iconst (v := 0) hx hb d_PM_loadsHold_11 (by decide) ?_
    refine lv_istore (lv' := [(4, .int 0), (0, .ref (ad 0)), (1, .int a1), (2, .int a2), (3, .int a3)]) hx hb d_PM_loadsHold_12 hl (by decide) rfl (fun ls hl => ?_)
    have k14 : ∀ (n14 : Nat) (x1 : Int32) (x2 : Int32) (x3 : Int32) (x4 : Int32) (σ : Sg) (h : L_PM_loadsHold_14 n14 x1 x2 x3 x4 σ = some out) (H : Heap) (locs : List Loc) (hW : WS G ad cI cZ s σ H locs) (ls : Array Slot) (hl : lv_has ls 6 [(0, .ref (ad 0)), (1, .int x1), (2, .int x2), (3, .int x3), (4, .int x4)]), W p l e (headSpec wl_PM_loadsHold ({ frames := 5, cells := 0, slots := 0, locals := 115 } : Room)).room s m (([.ref (ad 0), .int a1, .int a2, .int a3] : List Value).toArray) below meth c H locs 0 0 (MQ below (QMi G ad cI cZ out) (([.ref (ad 0), .int a1, .int a2, .int a3] : List Value).toArray) s 0 0 (AX ad)) (F0 m 14 ls []) := by
      intro n14
      induction n14 with
      | zero =>
        intro x1 x2 x3 x4 σ h
        exact absurd h (by intro z; cases z)
      | succ n14 ih14 =>
        intro x1 x2 x3 x4 σ h H locs hW ls hl
        replace h : B_PM_loadsHold_14 (L_PM_loadsHold_14 n14) x1 x2 x3 x4 σ = some out := h
        unfold B_PM_loadsHold_14 at h
        refine lv_iload hx hb d_PM_loadsHold_14 (lv_at hl 4 rfl) ?_
        refine lv_aload_n hx hb d_PM_loadsHold_16 rfl (lv_at hl 0 rfl) ?_
        refine gf_PM_40 C hW.1 d_PM_loadsHold_17 ?_
        refine gf_PM_164 C hW.1 d_PM_loadsHold_20 ?_
        refine lv_icmp_ge (tgt := 68) hx hb d_PM_loadsHold_23 (by decide) (fun c3 => ?_) (fun c3 => ?_)
        · rw [if_pos c3] at h
          refine lv_iconst (v := 1) hx hb d_PM_loadsHold_68 (by decide) ?_
          exact W.zret hx hb hr rfl (fun t ht _ => qm_i h ht hW) hW.2.2.2 d_PM_loadsHold_69
        · rw [if_neg c3] at h
          refine lv_aload_n hx hb d_PM_loadsHold_26 rfl (lv_at hl 0 rfl) ?_
          refine gf_PM_40 C hW.1 d_PM_loadsHold_27 ?_
          refine gf_PM_225 C hW.1 d_PM_loadsHold_30 ?_
          refine lv_iload hx hb d_PM_loadsHold_33 (lv_at hl 4 rfl) ?_
          obtain ⟨hin, h⟩ := gd_some h
          refine al_27 C hW.1 hin d_PM_loadsHold_35 ?_
          obtain ⟨y4, e_y4, h⟩ := lt1_some h
          refine W.eq (g2 := F0 m 36 ls (.int y4 :: [])) (by rw [e_y4]) ?_
          refine lv_istore (lv' := [(5, .int y4), (0, .ref (ad 0)), (1, .int x1), (2, .int x2), (3, .int x3), (4, .int x4)]) hx hb d_PM_loadsHold_36 hl (by decide) rfl (fun ls hl => ?_)
          refine lv_iload hx hb d_PM_loadsHold_38 (lv_at hl 0 rfl) ?_
          refine lv_iload_n hx hb d_PM_loadsHold_40 rfl (lv_at hl 3 rfl) ?_
          refine lv_icmp_le (tgt := 62) hx hb d_PM_loadsHold_41 (by decide) (fun c5 => ?_) (fun c5 => ?_)
          · rw [if_pos c5] at h
            refine lv_iinc (v := x4 + 1) (lv' := [(4, .int (x4 + 1)), (5, .int y4), (0, .ref (ad 0)), (1, .int x1), (2, .int x2), (3, .int x3)]) hx hb d_PM_loadsHold_62 hl (k := 5) rfl rfl (by decide) rfl (fun ls hl => ?_)
            refine lv_goto (tgt := 14) hx hb d_PM_loadsHold_65 (by decide) ?_
            exact ih14 x1 x2 x3 (x4 + 1) σ h _ _ hW _ (lv_sub hl [2, 3, 4, 5, 0] rfl)
          · rw [if_neg c5] at h
            refine lv_iload hx hb d_PM_loadsHold_44 (lv_at hl 0 rfl) ?_
            refine lv_iload_n hx hb d_PM_loadsHold_46 rfl (lv_at hl 4 rfl) ?_
            refine lv_icmp_gt (tgt := 62) hx hb d_PM_loadsHold_47 (by decide) (fun c6 => ?_) (fun c6 => ?_)
            · rw [if_pos c6] at h
              refine lv_iinc (v := x4 + 1) (lv' := [(4, .int (x4 + 1)), (5, .int y4), (0, .ref (ad 0)), (1, .int x1), (2, .int x2), (3, .int x3)]) hx hb d_PM_loadsHold_62 hl (k := 5) rfl rfl (by decide) rfl (fun ls hl => ?_)
              refine lv_goto (tgt := 14) hx hb d_PM_loadsHold_65 (by decide) ?_
              exact ih14 x1 x2 x3 (x4 + 1) σ h _ _ hW _ (lv_sub hl [2, 3, 4, 5, 0] rfl)
            · rw [if_neg c6] at h
              refine lv_aload_n hx hb d_PM_loadsHold_50 rfl (lv_at hl 1 rfl) ?_
              refine lv_iload_n hx hb d_PM_loadsHold_51 rfl (lv_at hl 2 rfl) ?_
              refine lv_iload hx hb d_PM_loadsHold_52 (lv_at hl 0 rfl) ?_
              obtain ⟨r7, g_r7, h⟩ := ob_some h
              refine cl_PM_222 (rest := []) C hD (hml.trans hl.1.symm) hW g_r7 ⟨Nat.le_of_ble_eq_true rfl, Nat.le_of_ble_eq_true rfl⟩ (Nat.le_of_ble_eq_true rfl) d_PM_loadsHold_54 ⟨Nat.zero_le _, Nat.zero_le _⟩ (fun H locs hW => ?_)
              refine lv_if_ne (tgt := 62) hx hb d_PM_loadsHold_57 (by decide) (fun c8 => ?_) (fun c8 => ?_)
              · rw [if_neg c8] at h
                refine lv_iinc (v := x4 + 1) (lv' := [(4, .int (x4 + 1)), (5, .int y4), (0, .ref (ad 0)), (1, .int x1), (2, .int x2), (3, .int x3)]) hx hb d_PM_loadsHold_62 hl (k := 5) rfl rfl (by decide) rfl (fun ls hl => ?_)
                refine lv_goto (tgt := 14) hx hb d_PM_loadsHold_65 (by decide) ?_
                exact ih14 x1 x2 x3 (x4 + 1) r7.2 h _ _ hW _ (lv_sub hl [2, 3, 4, 5, 0] rfl)
              · rw [if_pos c8] at h
                refine lv_iconst (v := 0) hx hb d_PM_loadsHold_60 (by decide) ?_
                exact W.zret hx hb hr rfl (fun t ht _ => qm_i h ht hW) hW.2.2.2 d_PM_loadsHold_61
    exact k14 _ a1 a2 a3 0 r1.2 h _ _ hW _ (lv_sub hl [1, 2, 3, 4, 0] rfl)
  · rw [if_pos c2] at h
    refine lv_iconst (v := 0) hx hb d_PM_loadsHold_9 (by decide) ?_
    exact W.zret hx hb hr rfl (fun t ht _ => qm_i h ht hW) hW.2.2.2 d_PM_loadsHold_10
section RC
variable {p : Program} {l : Launch} {e : Env} {R : Room} {s : State} {m : MethodId} {args : Array Value} {below : List Frame} {meth : Method} {c : Code} {H : Heap} {locs : List Loc} {cells slots : Nat} {Q : State → Prop}
variable {cc : ByteArray} {pc : Nat} {ls : Array Slot} {rest : List Value} {G : va_G} {ad : Nat → Nat} {cI cZ : ClassId} {σ : Sg} {own : String}
theorem cl_PM_168 (C : CX "PlaceMoves" cc p s m args c G cI cZ) (hD : DX ad) (hml : c.maxLocals = ls.size) (hW : WS G ad cI cZ s σ H locs) {x1 : Int32} {x2 : Int32} {x3 : Int32} {r : Int32 × Sg} (hg : f_PM_loadsHold σ x1 x2 x3 = some r) (hR : 5 + 1 ≤ R.frames ∧ 8 + (6 + 11) + 115 ≤ R.locals) (hrest : (rest.map fun v => v.category).sum ≤ 8) (hd : decode cc pc = .ok (.invokevirtual 168, 3)) (hcs : cells + 0 ≤ R.cells ∧ slots + 0 ≤ R.slots) (kk : ∀ (H1 : Heap) (locs1 : List Loc), WS G ad cI cZ s (r.2) H1 locs1 → W p l e R s m args below meth c H1 locs1 cells slots Q (F0 m (pc + 3) ls (.int r.1 :: rest))) : W p l e R s m args below meth c H locs cells slots Q (F0 m pc ls (.int x3 :: .int x2 :: .int x1 :: .ref (ad 0) :: rest)) :=
  va_calli (va_runV (As := [.int x1, .int x2, .int x3]) (rest := rest) ⟨C.1, C.2.1, hml, C.2.2.1, C.2.2.2.1⟩ (c_PM_loadsHold l G ad cI cZ hD σ x1 x2 x3 r hg) (cwV 3 C.2.2.2.1 (wg_V w_426 w_428 ws_8 w_1 w_429) rfl rfl rfl (by decide +kernel) hR) ⟨PcX.blind, va_recv C.2.2.2.2.1 hW.1 (ci := 0) (q0 := 0) rfl rfl, fun U hU hZ => ⟨rfl, by rw [hU]; exact hW.1, C.2.2.2.2.warm hZ⟩⟩ rfl rfl rfl rfl (lv_room hrest) hd hcs) hW.2 (fun _ _ z => z) (fun _ z => z) (fun r' u t H1 locs1 ht _ hp hB _ _ hS => by subst hp; exact kk H1 locs1 ⟨by rw [← ht]; exact hB, hS⟩)
end RC
