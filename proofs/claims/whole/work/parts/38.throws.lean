abbrev wl_PM_needKnown : List Cond := .code ⟨"PlaceMoves", "needKnown", "(II)V"⟩ prog_1_method_23_code 2 none :: WG
set_option maxHeartbeats 4000000 in
set_option maxRecDepth 100000 in
theorem c_PM_needKnown (l : Launch) (hfl : l.flags = pinnedFlags ++ [noTraceFlag]) (b0 : Nat) (G : va_G) (ad : Nat → Nat) (cI cZ : ClassId) (σ : Sg) (a0 : Int32) (a1 : Int32) (out : Nat) (h : f_PM_needKnown σ a0 a1 = some out) : tx_Met l ⟨"PlaceMoves", "needKnown", "(II)V"⟩ wl_PM_needKnown (rmE 6 90 out) (PcT b0 G ad cI cZ σ [.int a0, .int a1]) (QTv out) (cE out) (6 * cE out) (fun _ => False) := by
  refine tx_ofW (cc := prog_1_method_23_code) (maxL := 2) (ret := none) (by decide) rfl ?_
  intro p e s m args below meth c s₁ B hml hv
  obtain ⟨rfl, hP, hK, hTE⟩ := hv
  have hx := B.exec
  have hb := B.bytes
  have hr := B.returns
  have hts0 := atoms_spec (ws := wl_PM_needKnown) B.pre
  have hts : ∀ w ∈ WG, w.before _ s = true := fun w hw => hts0 w (List.mem_cons_of_mem _ hw)
  have hne := B.noHandlers (hts0 _ List.mem_cons_self)
  have hown : s.vm.findClass "PlaceMoves" = some m.cls := findClass_of_methodNamed B.named
  have hlocks := B.notSynchronized
  have C : CX "PlaceMoves" prog_1_method_23_code p s m _ c G cI cZ := ⟨hx, hb, hown, hts, hK⟩
  have hl := lv_entry ([.int a0, .int a1]) (n := 2) (Nat.le_of_ble_eq_true rfl)
  rw [lg_entry_eq]
  generalize (lg_sl ([.int a0, .int a1]) ++ List.replicate (2 - (lg_sl ([.int a0, .int a1])).length) Slot.unset).toArray = ls at hl ⊢
  have hl : lv_has ls 2 [(0, .int a0), (1, .int a1)] := hl
  unfold f_PM_needKnown at h
  refine lv_iload_n hx hb d_PM_needKnown_0 rfl (lv_at hl 0 rfl) ?_
  refine lv_if_lt (tgt := 9) hx hb d_PM_needKnown_1 (by decide) (fun c1 => ?_) (fun c1 => ?_)
  · rw [if_pos c1] at h
    exact tx_lnv h (by decide) (nw_PM_191_193 C hfl hTE (hml.trans hl.1.symm) d_PM_needKnown_9 d_PM_needKnown_12 d_PM_needKnown_13 d_PM_needKnown_15 d_PM_needKnown_18 (covers_of_empty hne _) hlocks (cE_v1 h (by decide)) ⟨Nat.le_of_ble_eq_true rfl, Nat.le_of_ble_eq_true rfl⟩ (Nat.le_of_ble_eq_true rfl) (fun t t9 => qt_xv h (by decide) t9))
  · rw [if_neg c1] at h
    refine lv_iload_n hx hb d_PM_needKnown_4 rfl (lv_at hl 0 rfl) ?_
    refine lv_iload_n hx hb d_PM_needKnown_5 rfl (lv_at hl 1 rfl) ?_
    refine lv_icmp_lt (tgt := 19) hx hb d_PM_needKnown_6 (by decide) (fun c2 => ?_) (fun c2 => ?_)
    · rw [if_pos c2] at h
      exact tx_leafv h (W.vret hx hb hr (fun t ht _ => qt_v h ht) (fun _ hq => nomatch hq) d_PM_needKnown_19)
    · rw [if_neg c2] at h
      exact tx_lnv h (by decide) (nw_PM_191_193 C hfl hTE (hml.trans hl.1.symm) d_PM_needKnown_9 d_PM_needKnown_12 d_PM_needKnown_13 d_PM_needKnown_15 d_PM_needKnown_18 (covers_of_empty hne _) hlocks (cE_v1 h (by decide)) ⟨Nat.le_of_ble_eq_true rfl, Nat.le_of_ble_eq_true rfl⟩ (Nat.le_of_ble_eq_true rfl) (fun t t9 => qt_xv h (by decide) t9))
section RC
variable {p : Program} {l : Launch} {e : Env} {R : Room} {s : State} {m : MethodId} {args : Array Value} {below : List Frame} {meth : Method} {c : Code} {H : Heap} {locs : List Loc} {cells slots : Nat} {Q : State → Prop}
variable {cc : ByteArray} {pc : Nat} {ls : Array Slot} {rest : List Value} {G : va_G} {ad : Nat → Nat} {cI cZ : ClassId} {σ : Sg} {own : String}
theorem cl_PM_132 {b0 : Nat} (C : CX "PlaceMoves" cc p s m args c G cI cZ) (hfl : l.flags = pinnedFlags ++ [noTraceFlag]) (hTE : TE b0 s H) (hml : c.maxLocals = ls.size) (hP : va_P G clX (wX ad cI cZ σ) H) {x0 : Int32} {x1 : Int32} {r : Nat} (hg : f_PM_needKnown σ x0 x1 = some r) (z : r = 0) (hR : 6 + 1 ≤ R.frames ∧ 8 + (2 + 11) + 90 ≤ R.locals) (hrest : (rest.map fun v => v.category).sum ≤ 8) (hd : decode cc pc = .ok (.invokestatic 132, 3)) (hcs : cells + 0 ≤ R.cells ∧ slots + 0 ≤ R.slots) (kk : W p l e R s m args below meth c H locs cells slots Q (F0 m (pc + 3) ls rest)) : W p l e R s m args below meth c H locs cells slots Q (F0 m pc ls (.int x1 :: .int x0 :: rest)) := by
  have M := c_PM_needKnown l hfl b0 G ad cI cZ σ x0 x1 r hg
  rw [z] at M
  exact tx_call0 (v0 := none) (W.runS (As := [.int x0, .int x1]) (rest := rest) ⟨C.1, C.2.1, hml, C.2.2.1, C.2.2.2.1⟩ (tx_toMet M (fun _ _ _ _ q9 => ⟨_, (q9.1 rfl).1⟩)) (va_cwS 2 C.2.2.2.1 (wg_S w_218 w_219 w_1 w_220) rfl rfl rfl (by decide +kernel) hR) ⟨PcT.blind, fun U hU hZ => ⟨rfl, by rw [hU]; exact hP, C.2.2.2.2.warm hZ, by rw [hU]; exact hTE.warm hZ⟩⟩ rfl rfl rfl rfl (lv_room hrest) hd hcs) (fun _ _ _ q9 => q9.1 rfl) kk
theorem cl_PM_132_x {Qd : Array Value → State → Outcome → State → Prop} {b0 : Nat} (C : CX "PlaceMoves" cc p s m args c G cI cZ) (hfl : l.flags = pinnedFlags ++ [noTraceFlag]) (hTE : TE b0 s H) (hml : c.maxLocals = ls.size) (hP : va_P G clX (wX ad cI cZ σ) H) {x0 : Int32} {x1 : Int32} {r : Nat} (hg : f_PM_needKnown σ x0 x1 = some r) (z : ¬ r = 0) (hR : 6 + 1 ≤ R.frames ∧ 8 + (2 + 11) + 90 ≤ R.locals) (hrest : (rest.map fun v => v.category).sum ≤ 8) (hd : decode cc pc = .ok (.invokestatic 132, 3)) (hout : ∀ x ∈ c.exceptionTable.toList, covers x pc = false) (hlocks : meth.locks = false) (hcs : 0 + cE r ≤ R.cells ∧ 0 + 6 * cE r ≤ R.slots) (kq : ∀ (q : Addr) (u : State), Thr r H (.threw q) u → Qd args s (.threw q) u) {free : Addr → Prop} (hf1 : ∀ z ∈ locs, free z.base := by exact fun _ hq => nomatch hq) : W p l e R s m args below meth c H locs 0 0 (tx_MQ below Qd args s (0 + cE r) (0 + 6 * cE r) free) (F0 m pc ls (.int x1 :: .int x0 :: rest)) :=
  tx_Sout (As := [.int x0, .int x1]) (rest := rest) ⟨C.1, C.2.1, hml, C.2.2.1, C.2.2.2.1⟩ (c_PM_needKnown l hfl b0 G ad cI cZ σ x0 x1 r hg) (va_cwS 2 C.2.2.2.1 (wg_S w_218 w_219 w_1 w_220) rfl rfl rfl (by decide +kernel) hR) ⟨PcT.blind, fun U hU hZ => ⟨rfl, by rw [hU]; exact hP, C.2.2.2.2.warm hZ, by rw [hU]; exact hTE.warm hZ⟩⟩ (fun _ _ _ _ q9 => by obtain ⟨q, _, e9, _⟩ := q9.2 z; exact ⟨q, e9⟩) rfl rfl rfl rfl rfl rfl (lv_room hrest) hd hcs hout hlocks (fun q st t u hst q9 hu hv => kq q u (Thr.shift (by rw [← hst]; exact q9.2 z) hu hv)) hf1 (fun _ z9 => z9.elim)
end RC
abbrev wl_PM_needPlace : List Cond := .code ⟨"PlaceMoves", "needPlace", "(I)V"⟩ prog_1_method_20_code 2 none :: WG
set_option maxHeartbeats 4000000 in
set_option maxRecDepth 100000 in
theorem c_PM_needPlace (l : Launch) (hfl : l.flags = pinnedFlags ++ [noTraceFlag]) (b0 : Nat) (G : va_G) (ad : Nat → Nat) (cI cZ : ClassId) (σ : Sg) (a1 : Int32) (out : Nat) (h : f_PM_needPlace σ a1 = some out) : tx_Met l ⟨"PlaceMoves", "needPlace", "(I)V"⟩ wl_PM_needPlace (rmE 7 111 out) (PcT b0 G ad cI cZ σ [.ref (ad 0), .int a1]) (QTv out) (cE out) (6 * cE out) (fun _ => False) := by
  refine tx_ofW (cc := prog_1_method_20_code) (maxL := 2) (ret := none) (by decide) rfl ?_
  intro p e s m args below meth c s₁ B hml hv
  obtain ⟨rfl, hP, hK, hTE⟩ := hv
  have hx := B.exec
  have hb := B.bytes
  have hr := B.returns
  have hts0 := atoms_spec (ws := wl_PM_needPlace) B.pre
  have hts : ∀ w ∈ WG, w.before _ s = true := fun w hw => hts0 w (List.mem_cons_of_mem _ hw)
  have hne := B.noHandlers (hts0 _ List.mem_cons_self)
  have hown : s.vm.findClass "PlaceMoves" = some m.cls := findClass_of_methodNamed B.named
  have hlocks := B.notSynchronized
  have C : CX "PlaceMoves" prog_1_method_20_code p s m _ c G cI cZ := ⟨hx, hb, hown, hts, hK⟩
  have hl := lv_entry ([.ref (ad 0), .int a1]) (n := 2) (Nat.le_of_ble_eq_true rfl)
  rw [lg_entry_eq]
  generalize (lg_sl ([.ref (ad 0), .int a1]) ++ List.replicate (2 - (lg_sl ([.ref (ad 0), .int a1])).length) Slot.unset).toArray = ls at hl ⊢
  have hl : lv_has ls 2 [(0, .ref (ad 0)), (1, .int a1)] := hl
  unfold f_PM_needPlace at h
  refine lv_iload_n hx hb d_PM_needPlace_0 rfl (lv_at hl 1 rfl) ?_
  refine lv_aload_n hx hb d_PM_needPlace_1 rfl (lv_at hl 0 rfl) ?_
  refine gf_PM_10 C hP d_PM_needPlace_2 ?_
  refine gf_PM_72 C hP d_PM_needPlace_5 ?_
  obtain ⟨r1, g_r1, h⟩ := ob_some h
  by_cases z_r1 : r1 = 0
  · rw [if_pos z_r1] at h
    refine cl_PM_132 (rest := []) C hfl hTE (hml.trans hl.1.symm) hP g_r1 z_r1 ⟨Nat.le_of_ble_eq_true rfl, Nat.le_of_ble_eq_true rfl⟩ (Nat.le_of_ble_eq_true rfl) d_PM_needPlace_8 ⟨Nat.zero_le _, Nat.zero_le _⟩ ?_
    exact tx_leafv h (W.vret hx hb hr (fun t ht _ => qt_v h ht) (fun _ hq => nomatch hq) d_PM_needPlace_11)
  · rw [if_neg z_r1] at h
    exact tx_lpv h (cl_PM_132_x (rest := []) C hfl hTE (hml.trans hl.1.symm) hP g_r1 z_r1 ⟨Nat.le_of_ble_eq_true rfl, Nat.le_of_ble_eq_true rfl⟩ (Nat.le_of_ble_eq_true rfl) d_PM_needPlace_8 (covers_of_empty hne _) hlocks (cE_v h) (fun _ _ t9 => qt_xv h z_r1 t9))
section RC
variable {p : Program} {l : Launch} {e : Env} {R : Room} {s : State} {m : MethodId} {args : Array Value} {below : List Frame} {meth : Method} {c : Code} {H : Heap} {locs : List Loc} {cells slots : Nat} {Q : State → Prop}
variable {cc : ByteArray} {pc : Nat} {ls : Array Slot} {rest : List Value} {G : va_G} {ad : Nat → Nat} {cI cZ : ClassId} {σ : Sg} {own : String}
theorem cl_PM_63 {b0 : Nat} (C : CX "PlaceMoves" cc p s m args c G cI cZ) (hfl : l.flags = pinnedFlags ++ [noTraceFlag]) (hTE : TE b0 s H) (hml : c.maxLocals = ls.size) (hP : va_P G clX (wX ad cI cZ σ) H) {x1 : Int32} {r : Nat} (hg : f_PM_needPlace σ x1 = some r) (z : r = 0) (hR : 7 + 1 ≤ R.frames ∧ 8 + (2 + 11) + 111 ≤ R.locals) (hrest : (rest.map fun v => v.category).sum ≤ 8) (hd : decode cc pc = .ok (.invokevirtual 63, 3)) (hcs : cells + 0 ≤ R.cells ∧ slots + 0 ≤ R.slots) (kk : W p l e R s m args below meth c H locs cells slots Q (F0 m (pc + 3) ls rest)) : W p l e R s m args below meth c H locs cells slots Q (F0 m pc ls (.int x1 :: .ref (ad 0) :: rest)) := by
  have M := c_PM_needPlace l hfl b0 G ad cI cZ σ x1 r hg
  rw [z] at M
  exact tx_call0 (v0 := none) (W.runV (As := [.int x1]) (rest := rest) ⟨C.1, C.2.1, hml, C.2.2.1, C.2.2.2.1⟩ (tx_toMet M (fun _ _ _ _ q9 => ⟨_, (q9.1 rfl).1⟩)) (cwV 1 C.2.2.2.1 (wg_V w_214 w_216 ws_0 w_1 w_217) rfl rfl rfl (by decide +kernel) hR) ⟨PcT.blind, va_recv C.2.2.2.2.1 hP (ci := 0) (q0 := 0) rfl rfl, fun U hU hZ => ⟨rfl, by rw [hU]; exact hP, C.2.2.2.2.warm hZ, by rw [hU]; exact hTE.warm hZ⟩⟩ rfl rfl rfl rfl (lv_room hrest) hd hcs) (fun _ _ _ q9 => q9.1 rfl) kk
theorem cl_PM_63_x {Qd : Array Value → State → Outcome → State → Prop} {b0 : Nat} (C : CX "PlaceMoves" cc p s m args c G cI cZ) (hfl : l.flags = pinnedFlags ++ [noTraceFlag]) (hTE : TE b0 s H) (hml : c.maxLocals = ls.size) (hP : va_P G clX (wX ad cI cZ σ) H) {x1 : Int32} {r : Nat} (hg : f_PM_needPlace σ x1 = some r) (z : ¬ r = 0) (hR : 7 + 1 ≤ R.frames ∧ 8 + (2 + 11) + 111 ≤ R.locals) (hrest : (rest.map fun v => v.category).sum ≤ 8) (hd : decode cc pc = .ok (.invokevirtual 63, 3)) (hout : ∀ x ∈ c.exceptionTable.toList, covers x pc = false) (hlocks : meth.locks = false) (hcs : 0 + cE r ≤ R.cells ∧ 0 + 6 * cE r ≤ R.slots) (kq : ∀ (q : Addr) (u : State), Thr r H (.threw q) u → Qd args s (.threw q) u) {free : Addr → Prop} (hf1 : ∀ z ∈ locs, free z.base := by exact fun _ hq => nomatch hq) : W p l e R s m args below meth c H locs 0 0 (tx_MQ below Qd args s (0 + cE r) (0 + 6 * cE r) free) (F0 m pc ls (.int x1 :: .ref (ad 0) :: rest)) :=
  tx_Vout (As := [.int x1]) (rest := rest) ⟨C.1, C.2.1, hml, C.2.2.1, C.2.2.2.1⟩ (c_PM_needPlace l hfl b0 G ad cI cZ σ x1 r hg) (cwV 1 C.2.2.2.1 (wg_V w_214 w_216 ws_0 w_1 w_217) rfl rfl rfl (by decide +kernel) hR) ⟨PcT.blind, va_recv C.2.2.2.2.1 hP (ci := 0) (q0 := 0) rfl rfl, fun U hU hZ => ⟨rfl, by rw [hU]; exact hP, C.2.2.2.2.warm hZ, by rw [hU]; exact hTE.warm hZ⟩⟩ (fun _ _ _ _ q9 => by obtain ⟨q, _, e9, _⟩ := q9.2 z; exact ⟨q, e9⟩) rfl rfl rfl rfl rfl rfl (lv_room hrest) hd hcs hout hlocks (fun q st t u hst q9 hu hv => kq q u (Thr.shift (by rw [← hst]; exact q9.2 z) hu hv)) hf1 (fun _ z9 => z9.elim)
end RC
abbrev wl_PM_needRange : List Cond := .code ⟨"PlaceMoves", "needRange", "(III)V"⟩ prog_1_method_24_code 3 none :: WG
set_option maxHeartbeats 4000000 in
set_option maxRecDepth 100000 in
theorem c_PM_needRange (l : Launch) (hfl : l.flags = pinnedFlags ++ [noTraceFlag]) (b0 : Nat) (G : va_G) (ad : Nat → Nat) (cI cZ : ClassId) (σ : Sg) (a0 : Int32) (a1 : Int32) (a2 : Int32) (out : Nat) (h : f_PM_needRange σ a0 a1 a2 = some out) : tx_Met l ⟨"PlaceMoves", "needRange", "(III)V"⟩ wl_PM_needRange (rmE 6 90 out) (PcT b0 G ad cI cZ σ [.int a0, .int a1, .int a2]) (QTv out) (cE out) (6 * cE out) (fun _ => False) := by
  refine tx_ofW (cc := prog_1_method_24_code) (maxL := 3) (ret := none) (by decide) rfl ?_
  intro p e s m args below meth c s₁ B hml hv
  obtain ⟨rfl, hP, hK, hTE⟩ := hv
  have hx := B.exec
  have hb := B.bytes
  have hr := B.returns
  have hts0 := atoms_spec (ws := wl_PM_needRange) B.pre
  have hts : ∀ w ∈ WG, w.before _ s = true := fun w hw => hts0 w (List.mem_cons_of_mem _ hw)
  have hne := B.noHandlers (hts0 _ List.mem_cons_self)
  have hown : s.vm.findClass "PlaceMoves" = some m.cls := findClass_of_methodNamed B.named
  have hlocks := B.notSynchronized
  have C : CX "PlaceMoves" prog_1_method_24_code p s m _ c G cI cZ := ⟨hx, hb, hown, hts, hK⟩
  have hl := lv_entry ([.int a0, .int a1, .int a2]) (n := 3) (Nat.le_of_ble_eq_true rfl)
  rw [lg_entry_eq]
  generalize (lg_sl ([.int a0, .int a1, .int a2]) ++ List.replicate (3 - (lg_sl ([.int a0, .int a1, .int a2])).length) Slot.unset).toArray = ls at hl ⊢
  have hl : lv_has ls 3 [(0, .int a0), (1, .int a1), (2, .int a2)] := hl
  unfold f_PM_needRange at h
  refine lv_iload_n hx hb d_PM_needRange_0 rfl (lv_at hl 0 rfl) ?_
  refine lv_iload_n hx hb d_PM_needRange_1 rfl (lv_at hl 1 rfl) ?_
  refine lv_icmp_lt (tgt := 10) hx hb d_PM_needRange_2 (by decide) (fun c1 => ?_) (fun c1 => ?_)
  · rw [if_pos c1] at h
    exact tx_lnv h (by decide) (nw_PM_144_196 C hfl hTE (hml.trans hl.1.symm) d_PM_needRange_10 d_PM_needRange_13 d_PM_needRange_14 d_PM_needRange_16 d_PM_needRange_19 (covers_of_empty hne _) hlocks (cE_v1 h (by decide)) ⟨Nat.le_of_ble_eq_true rfl, Nat.le_of_ble_eq_true rfl⟩ (Nat.le_of_ble_eq_true rfl) (fun t t9 => qt_xv h (by decide) t9))
  · rw [if_neg c1] at h
    refine lv_iload_n hx hb d_PM_needRange_5 rfl (lv_at hl 0 rfl) ?_
    refine lv_iload_n hx hb d_PM_needRange_6 rfl (lv_at hl 2 rfl) ?_
    refine lv_icmp_le (tgt := 20) hx hb d_PM_needRange_7 (by decide) (fun c2 => ?_) (fun c2 => ?_)
    · rw [if_pos c2] at h
      exact tx_leafv h (W.vret hx hb hr (fun t ht _ => qt_v h ht) (fun _ hq => nomatch hq) d_PM_needRange_20)
    · rw [if_neg c2] at h
      exact tx_lnv h (by decide) (nw_PM_144_196 C hfl hTE (hml.trans hl.1.symm) d_PM_needRange_10 d_PM_needRange_13 d_PM_needRange_14 d_PM_needRange_16 d_PM_needRange_19 (covers_of_empty hne _) hlocks (cE_v1 h (by decide)) ⟨Nat.le_of_ble_eq_true rfl, Nat.le_of_ble_eq_true rfl⟩ (Nat.le_of_ble_eq_true rfl) (fun t t9 => qt_xv h (by decide) t9))
section RC
variable {p : Program} {l : Launch} {e : Env} {R : Room} {s : State} {m : MethodId} {args : Array Value} {below : List Frame} {meth : Method} {c : Code} {H : Heap} {locs : List Loc} {cells slots : Nat} {Q : State → Prop}
variable {cc : ByteArray} {pc : Nat} {ls : Array Slot} {rest : List Value} {G : va_G} {ad : Nat → Nat} {cI cZ : ClassId} {σ : Sg} {own : String}
theorem cl_PM_68 {b0 : Nat} (C : CX "PlaceMoves" cc p s m args c G cI cZ) (hfl : l.flags = pinnedFlags ++ [noTraceFlag]) (hTE : TE b0 s H) (hml : c.maxLocals = ls.size) (hP : va_P G clX (wX ad cI cZ σ) H) {x0 : Int32} {x1 : Int32} {x2 : Int32} {r : Nat} (hg : f_PM_needRange σ x0 x1 x2 = some r) (z : r = 0) (hR : 6 + 1 ≤ R.frames ∧ 8 + (3 + 11) + 90 ≤ R.locals) (hrest : (rest.map fun v => v.category).sum ≤ 8) (hd : decode cc pc = .ok (.invokestatic 68, 3)) (hcs : cells + 0 ≤ R.cells ∧ slots + 0 ≤ R.slots) (kk : W p l e R s m args below meth c H locs cells slots Q (F0 m (pc + 3) ls rest)) : W p l e R s m args below meth c H locs cells slots Q (F0 m pc ls (.int x2 :: .int x1 :: .int x0 :: rest)) := by
  have M := c_PM_needRange l hfl b0 G ad cI cZ σ x0 x1 x2 r hg
  rw [z] at M
  exact tx_call0 (v0 := none) (W.runS (As := [.int x0, .int x1, .int x2]) (rest := rest) ⟨C.1, C.2.1, hml, C.2.2.1, C.2.2.2.1⟩ (tx_toMet M (fun _ _ _ _ q9 => ⟨_, (q9.1 rfl).1⟩)) (va_cwS 3 C.2.2.2.1 (wg_S w_290 w_291 w_1 w_292) rfl rfl rfl (by decide +kernel) hR) ⟨PcT.blind, fun U hU hZ => ⟨rfl, by rw [hU]; exact hP, C.2.2.2.2.warm hZ, by rw [hU]; exact hTE.warm hZ⟩⟩ rfl rfl rfl rfl (lv_room hrest) hd hcs) (fun _ _ _ q9 => q9.1 rfl) kk
theorem cl_PM_68_x {Qd : Array Value → State → Outcome → State → Prop} {b0 : Nat} (C : CX "PlaceMoves" cc p s m args c G cI cZ) (hfl : l.flags = pinnedFlags ++ [noTraceFlag]) (hTE : TE b0 s H) (hml : c.maxLocals = ls.size) (hP : va_P G clX (wX ad cI cZ σ) H) {x0 : Int32} {x1 : Int32} {x2 : Int32} {r : Nat} (hg : f_PM_needRange σ x0 x1 x2 = some r) (z : ¬ r = 0) (hR : 6 + 1 ≤ R.frames ∧ 8 + (3 + 11) + 90 ≤ R.locals) (hrest : (rest.map fun v => v.category).sum ≤ 8) (hd : decode cc pc = .ok (.invokestatic 68, 3)) (hout : ∀ x ∈ c.exceptionTable.toList, covers x pc = false) (hlocks : meth.locks = false) (hcs : 0 + cE r ≤ R.cells ∧ 0 + 6 * cE r ≤ R.slots) (kq : ∀ (q : Addr) (u : State), Thr r H (.threw q) u → Qd args s (.threw q) u) {free : Addr → Prop} (hf1 : ∀ z ∈ locs, free z.base := by exact fun _ hq => nomatch hq) : W p l e R s m args below meth c H locs 0 0 (tx_MQ below Qd args s (0 + cE r) (0 + 6 * cE r) free) (F0 m pc ls (.int x2 :: .int x1 :: .int x0 :: rest)) :=
  tx_Sout (As := [.int x0, .int x1, .int x2]) (rest := rest) ⟨C.1, C.2.1, hml, C.2.2.1, C.2.2.2.1⟩ (c_PM_needRange l hfl b0 G ad cI cZ σ x0 x1 x2 r hg) (va_cwS 3 C.2.2.2.1 (wg_S w_290 w_291 w_1 w_292) rfl rfl rfl (by decide +kernel) hR) ⟨PcT.blind, fun U hU hZ => ⟨rfl, by rw [hU]; exact hP, C.2.2.2.2.warm hZ, by rw [hU]; exact hTE.warm hZ⟩⟩ (fun _ _ _ _ q9 => by obtain ⟨q, _, e9, _⟩ := q9.2 z; exact ⟨q, e9⟩) rfl rfl rfl rfl rfl rfl (lv_room hrest) hd hcs hout hlocks (fun q st t u hst q9 hu hv => kq q u (Thr.shift (by rw [← hst]; exact q9.2 z) hu hv)) hf1 (fun _ z9 => z9.elim)
end RC
abbrev wl_PM_needRoom : List Cond := .code ⟨"PlaceMoves", "needRoom", "(II)V"⟩ prog_1_method_25_code 2 none :: WG
set_option maxHeartbeats 4000000 in
set_option maxRecDepth 100000 in
theorem c_PM_needRoom (l : Launch) (hfl : l.flags = pinnedFlags ++ [noTraceFlag]) (b0 : Nat) (G : va_G) (ad : Nat → Nat) (cI cZ : ClassId) (σ : Sg) (a0 : Int32) (a1 : Int32) (out : Nat) (h : f_PM_needRoom σ a0 a1 = some out) : tx_Met l ⟨"PlaceMoves", "needRoom", "(II)V"⟩ wl_PM_needRoom (rmE 6 90 out) (PcT b0 G ad cI cZ σ [.int a0, .int a1]) (QTv out) (cE out) (6 * cE out) (fun _ => False) := by
  refine tx_ofW (cc := prog_1_method_25_code) (maxL := 2) (ret := none) (by decide) rfl ?_
  intro p e s m args below meth c s₁ B hml hv
  obtain ⟨rfl, hP, hK, hTE⟩ := hv
  have hx := B.exec
  have hb := B.bytes
  have hr := B.returns
  have hts0 := atoms_spec (ws := wl_PM_needRoom) B.pre
  have hts : ∀ w ∈ WG, w.before _ s = true := fun w hw => hts0 w (List.mem_cons_of_mem _ hw)
  have hne := B.noHandlers (hts0 _ List.mem_cons_self)
  have hown : s.vm.findClass "PlaceMoves" = some m.cls := findClass_of_methodNamed B.named
  have hlocks := B.notSynchronized
  have C : CX "PlaceMoves" prog_1_method_25_code p s m _ c G cI cZ := ⟨hx, hb, hown, hts, hK⟩
  have hl := lv_entry ([.int a0, .int a1]) (n := 2) (Nat.le_of_ble_eq_true rfl)
  rw [lg_entry_eq]
  generalize (lg_sl ([.int a0, .int a1]) ++ List.replicate (2 - (lg_sl ([.int a0, .int a1])).length) Slot.unset).toArray = ls at hl ⊢
  have hl : lv_has ls 2 [(0, .int a0), (1, .int a1)] := hl
  unfold f_PM_needRoom at h
  refine lv_iload_n hx hb d_PM_needRoom_0 rfl (lv_at hl 0 rfl) ?_
  refine lv_iload_n hx hb d_PM_needRoom_1 rfl (lv_at hl 1 rfl) ?_
  refine lv_icmp_lt (tgt := 15) hx hb d_PM_needRoom_2 (by decide) (fun c1 => ?_) (fun c1 => ?_)
  · rw [if_pos c1] at h
    exact tx_leafv h (W.vret hx hb hr (fun t ht _ => qt_v h ht) (fun _ hq => nomatch hq) d_PM_needRoom_15)
  · rw [if_neg c1] at h
    exact tx_lnv h (by decide) (nw_PM_198_200 C hfl hTE (hml.trans hl.1.symm) d_PM_needRoom_5 d_PM_needRoom_8 d_PM_needRoom_9 d_PM_needRoom_11 d_PM_needRoom_14 (covers_of_empty hne _) hlocks (cE_v1 h (by decide)) ⟨Nat.le_of_ble_eq_true rfl, Nat.le_of_ble_eq_true rfl⟩ (Nat.le_of_ble_eq_true rfl) (fun t t9 => qt_xv h (by decide) t9))
section RC
variable {p : Program} {l : Launch} {e : Env} {R : Room} {s : State} {m : MethodId} {args : Array Value} {below : List Frame} {meth : Method} {c : Code} {H : Heap} {locs : List Loc} {cells slots : Nat} {Q : State → Prop}
variable {cc : ByteArray} {pc : Nat} {ls : Array Slot} {rest : List Value} {G : va_G} {ad : Nat → Nat} {cI cZ : ClassId} {σ : Sg} {own : String}
theorem cl_PM_75 {b0 : Nat} (C : CX "PlaceMoves" cc p s m args c G cI cZ) (hfl : l.flags = pinnedFlags ++ [noTraceFlag]) (hTE : TE b0 s H) (hml : c.maxLocals = ls.size) (hP : va_P G clX (wX ad cI cZ σ) H) {x0 : Int32} {x1 : Int32} {r : Nat} (hg : f_PM_needRoom σ x0 x1 = some r) (z : r = 0) (hR : 6 + 1 ≤ R.frames ∧ 8 + (2 + 11) + 90 ≤ R.locals) (hrest : (rest.map fun v => v.category).sum ≤ 8) (hd : decode cc pc = .ok (.invokestatic 75, 3)) (hcs : cells + 0 ≤ R.cells ∧ slots + 0 ≤ R.slots) (kk : W p l e R s m args below meth c H locs cells slots Q (F0 m (pc + 3) ls rest)) : W p l e R s m args below meth c H locs cells slots Q (F0 m pc ls (.int x1 :: .int x0 :: rest)) := by
  have M := c_PM_needRoom l hfl b0 G ad cI cZ σ x0 x1 r hg
  rw [z] at M
  exact tx_call0 (v0 := none) (W.runS (As := [.int x0, .int x1]) (rest := rest) ⟨C.1, C.2.1, hml, C.2.2.1, C.2.2.2.1⟩ (tx_toMet M (fun _ _ _ _ q9 => ⟨_, (q9.1 rfl).1⟩)) (va_cwS 2 C.2.2.2.1 (wg_S w_309 w_310 w_1 w_311) rfl rfl rfl (by decide +kernel) hR) ⟨PcT.blind, fun U hU hZ => ⟨rfl, by rw [hU]; exact hP, C.2.2.2.2.warm hZ, by rw [hU]; exact hTE.warm hZ⟩⟩ rfl rfl rfl rfl (lv_room hrest) hd hcs) (fun _ _ _ q9 => q9.1 rfl) kk
theorem cl_PM_75_x {Qd : Array Value → State → Outcome → State → Prop} {b0 : Nat} (C : CX "PlaceMoves" cc p s m args c G cI cZ) (hfl : l.flags = pinnedFlags ++ [noTraceFlag]) (hTE : TE b0 s H) (hml : c.maxLocals = ls.size) (hP : va_P G clX (wX ad cI cZ σ) H) {x0 : Int32} {x1 : Int32} {r : Nat} (hg : f_PM_needRoom σ x0 x1 = some r) (z : ¬ r = 0) (hR : 6 + 1 ≤ R.frames ∧ 8 + (2 + 11) + 90 ≤ R.locals) (hrest : (rest.map fun v => v.category).sum ≤ 8) (hd : decode cc pc = .ok (.invokestatic 75, 3)) (hout : ∀ x ∈ c.exceptionTable.toList, covers x pc = false) (hlocks : meth.locks = false) (hcs : 0 + cE r ≤ R.cells ∧ 0 + 6 * cE r ≤ R.slots) (kq : ∀ (q : Addr) (u : State), Thr r H (.threw q) u → Qd args s (.threw q) u) {free : Addr → Prop} (hf1 : ∀ z ∈ locs, free z.base := by exact fun _ hq => nomatch hq) : W p l e R s m args below meth c H locs 0 0 (tx_MQ below Qd args s (0 + cE r) (0 + 6 * cE r) free) (F0 m pc ls (.int x1 :: .int x0 :: rest)) :=
  tx_Sout (As := [.int x0, .int x1]) (rest := rest) ⟨C.1, C.2.1, hml, C.2.2.1, C.2.2.2.1⟩ (c_PM_needRoom l hfl b0 G ad cI cZ σ x0 x1 r hg) (va_cwS 2 C.2.2.2.1 (wg_S w_309 w_310 w_1 w_311) rfl rfl rfl (by decide +kernel) hR) ⟨PcT.blind, fun U hU hZ => ⟨rfl, by rw [hU]; exact hP, C.2.2.2.2.warm hZ, by rw [hU]; exact hTE.warm hZ⟩⟩ (fun _ _ _ _ q9 => by obtain ⟨q, _, e9, _⟩ := q9.2 z; exact ⟨q, e9⟩) rfl rfl rfl rfl rfl rfl (lv_room hrest) hd hcs hout hlocks (fun q st t u hst q9 hu hv => kq q u (Thr.shift (by rw [← hst]; exact q9.2 z) hu hv)) hf1 (fun _ z9 => z9.elim)
end RC
abbrev wl_PM_needObject : List Cond := .code ⟨"PlaceMoves", "needObject", "(I)V"⟩ prog_1_method_21_code 2 none :: WG
set_option maxHeartbeats 4000000 in
set_option maxRecDepth 100000 in
theorem c_PM_needObject (l : Launch) (hfl : l.flags = pinnedFlags ++ [noTraceFlag]) (b0 : Nat) (G : va_G) (ad : Nat → Nat) (cI cZ : ClassId) (σ : Sg) (a1 : Int32) (out : Nat) (h : f_PM_needObject σ a1 = some out) : tx_Met l ⟨"PlaceMoves", "needObject", "(I)V"⟩ wl_PM_needObject (rmE 7 111 out) (PcT b0 G ad cI cZ σ [.ref (ad 0), .int a1]) (QTv out) (cE out) (6 * cE out) (fun _ => False) := by
  refine tx_ofW (cc := prog_1_method_21_code) (maxL := 2) (ret := none) (by decide) rfl ?_
  intro p e s m args below meth c s₁ B hml hv
  obtain ⟨rfl, hP, hK, hTE⟩ := hv
  have hx := B.exec
  have hb := B.bytes
  have hr := B.returns
  have hts0 := atoms_spec (ws := wl_PM_needObject) B.pre
  have hts : ∀ w ∈ WG, w.before _ s = true := fun w hw => hts0 w (List.mem_cons_of_mem _ hw)
  have hne := B.noHandlers (hts0 _ List.mem_cons_self)
  have hown : s.vm.findClass "PlaceMoves" = some m.cls := findClass_of_methodNamed B.named
  have hlocks := B.notSynchronized
  have C : CX "PlaceMoves" prog_1_method_21_code p s m _ c G cI cZ := ⟨hx, hb, hown, hts, hK⟩
  have hl := lv_entry ([.ref (ad 0), .int a1]) (n := 2) (Nat.le_of_ble_eq_true rfl)
  rw [lg_entry_eq]
  generalize (lg_sl ([.ref (ad 0), .int a1]) ++ List.replicate (2 - (lg_sl ([.ref (ad 0), .int a1])).length) Slot.unset).toArray = ls at hl ⊢
  have hl : lv_has ls 2 [(0, .ref (ad 0)), (1, .int a1)] := hl
  unfold f_PM_needObject at h
  refine lv_iload_n hx hb d_PM_needObject_0 rfl (lv_at hl 1 rfl) ?_
  refine lv_aload_n hx hb d_PM_needObject_1 rfl (lv_at hl 0 rfl) ?_
  refine gf_PM_19 C hP d_PM_needObject_2 ?_
  refine gf_PM_84 C hP d_PM_needObject_5 ?_
  obtain ⟨r1, g_r1, h⟩ := ob_some h
  by_cases z_r1 : r1 = 0
  · rw [if_pos z_r1] at h
    refine cl_PM_132 (rest := []) C hfl hTE (hml.trans hl.1.symm) hP g_r1 z_r1 ⟨Nat.le_of_ble_eq_true rfl, Nat.le_of_ble_eq_true rfl⟩ (Nat.le_of_ble_eq_true rfl) d_PM_needObject_8 ⟨Nat.zero_le _, Nat.zero_le _⟩ ?_
    exact tx_leafv h (W.vret hx hb hr (fun t ht _ => qt_v h ht) (fun _ hq => nomatch hq) d_PM_needObject_11)
  · rw [if_neg z_r1] at h
    exact tx_lpv h (cl_PM_132_x (rest := []) C hfl hTE (hml.trans hl.1.symm) hP g_r1 z_r1 ⟨Nat.le_of_ble_eq_true rfl, Nat.le_of_ble_eq_true rfl⟩ (Nat.le_of_ble_eq_true rfl) d_PM_needObject_8 (covers_of_empty hne _) hlocks (cE_v h) (fun _ _ t9 => qt_xv h z_r1 t9))
section RC
variable {p : Program} {l : Launch} {e : Env} {R : Room} {s : State} {m : MethodId} {args : Array Value} {below : List Frame} {meth : Method} {c : Code} {H : Heap} {locs : List Loc} {cells slots : Nat} {Q : State → Prop}
variable {cc : ByteArray} {pc : Nat} {ls : Array Slot} {rest : List Value} {G : va_G} {ad : Nat → Nat} {cI cZ : ClassId} {σ : Sg} {own : String}
theorem cl_PM_88 {b0 : Nat} (C : CX "PlaceMoves" cc p s m args c G cI cZ) (hfl : l.flags = pinnedFlags ++ [noTraceFlag]) (hTE : TE b0 s H) (hml : c.maxLocals = ls.size) (hP : va_P G clX (wX ad cI cZ σ) H) {x1 : Int32} {r : Nat} (hg : f_PM_needObject σ x1 = some r) (z : r = 0) (hR : 7 + 1 ≤ R.frames ∧ 8 + (2 + 11) + 111 ≤ R.locals) (hrest : (rest.map fun v => v.category).sum ≤ 8) (hd : decode cc pc = .ok (.invokevirtual 88, 3)) (hcs : cells + 0 ≤ R.cells ∧ slots + 0 ≤ R.slots) (kk : W p l e R s m args below meth c H locs cells slots Q (F0 m (pc + 3) ls rest)) : W p l e R s m args below meth c H locs cells slots Q (F0 m pc ls (.int x1 :: .ref (ad 0) :: rest)) := by
  have M := c_PM_needObject l hfl b0 G ad cI cZ σ x1 r hg
  rw [z] at M
  exact tx_call0 (v0 := none) (W.runV (As := [.int x1]) (rest := rest) ⟨C.1, C.2.1, hml, C.2.2.1, C.2.2.2.1⟩ (tx_toMet M (fun _ _ _ _ q9 => ⟨_, (q9.1 rfl).1⟩)) (cwV 1 C.2.2.2.1 (wg_V w_361 w_363 ws_2 w_1 w_364) rfl rfl rfl (by decide +kernel) hR) ⟨PcT.blind, va_recv C.2.2.2.2.1 hP (ci := 0) (q0 := 0) rfl rfl, fun U hU hZ => ⟨rfl, by rw [hU]; exact hP, C.2.2.2.2.warm hZ, by rw [hU]; exact hTE.warm hZ⟩⟩ rfl rfl rfl rfl (lv_room hrest) hd hcs) (fun _ _ _ q9 => q9.1 rfl) kk
theorem cl_PM_88_x {Qd : Array Value → State → Outcome → State → Prop} {b0 : Nat} (C : CX "PlaceMoves" cc p s m args c G cI cZ) (hfl : l.flags = pinnedFlags ++ [noTraceFlag]) (hTE : TE b0 s H) (hml : c.maxLocals = ls.size) (hP : va_P G clX (wX ad cI cZ σ) H) {x1 : Int32} {r : Nat} (hg : f_PM_needObject σ x1 = some r) (z : ¬ r = 0) (hR : 7 + 1 ≤ R.frames ∧ 8 + (2 + 11) + 111 ≤ R.locals) (hrest : (rest.map fun v => v.category).sum ≤ 8) (hd : decode cc pc = .ok (.invokevirtual 88, 3)) (hout : ∀ x ∈ c.exceptionTable.toList, covers x pc = false) (hlocks : meth.locks = false) (hcs : 0 + cE r ≤ R.cells ∧ 0 + 6 * cE r ≤ R.slots) (kq : ∀ (q : Addr) (u : State), Thr r H (.threw q) u → Qd args s (.threw q) u) {free : Addr → Prop} (hf1 : ∀ z ∈ locs, free z.base := by exact fun _ hq => nomatch hq) : W p l e R s m args below meth c H locs 0 0 (tx_MQ below Qd args s (0 + cE r) (0 + 6 * cE r) free) (F0 m pc ls (.int x1 :: .ref (ad 0) :: rest)) :=
  tx_Vout (As := [.int x1]) (rest := rest) ⟨C.1, C.2.1, hml, C.2.2.1, C.2.2.2.1⟩ (c_PM_needObject l hfl b0 G ad cI cZ σ x1 r hg) (cwV 1 C.2.2.2.1 (wg_V w_361 w_363 ws_2 w_1 w_364) rfl rfl rfl (by decide +kernel) hR) ⟨PcT.blind, va_recv C.2.2.2.2.1 hP (ci := 0) (q0 := 0) rfl rfl, fun U hU hZ => ⟨rfl, by rw [hU]; exact hP, C.2.2.2.2.warm hZ, by rw [hU]; exact hTE.warm hZ⟩⟩ (fun _ _ _ _ q9 => by obtain ⟨q, _, e9, _⟩ := q9.2 z; exact ⟨q, e9⟩) rfl rfl rfl rfl rfl rfl (lv_room hrest) hd hcs hout hlocks (fun q st t u hst q9 hu hv => kq q u (Thr.shift (by rw [← hst]; exact q9.2 z) hu hv)) hf1 (fun _ z9 => z9.elim)
end RC
abbrev wl_PM_needPerson : List Cond := .code ⟨"PlaceMoves", "needPerson", "(I)V"⟩ prog_1_method_22_code 2 none :: WG
set_option maxHeartbeats 4000000 in
set_option maxRecDepth 100000 in
theorem c_PM_needPerson (l : Launch) (hfl : l.flags = pinnedFlags ++ [noTraceFlag]) (b0 : Nat) (G : va_G) (ad : Nat → Nat) (cI cZ : ClassId) (σ : Sg) (a1 : Int32) (out : Nat) (h : f_PM_needPerson σ a1 = some out) : tx_Met l ⟨"PlaceMoves", "needPerson", "(I)V"⟩ wl_PM_needPerson (rmE 7 111 out) (PcT b0 G ad cI cZ σ [.ref (ad 0), .int a1]) (QTv out) (cE out) (6 * cE out) (fun _ => False) := by
  refine tx_ofW (cc := prog_1_method_22_code) (maxL := 2) (ret := none) (by decide) rfl ?_
  intro p e s m args below meth c s₁ B hml hv
  obtain ⟨rfl, hP, hK, hTE⟩ := hv
  have hx := B.exec
  have hb := B.bytes
  have hr := B.returns
  have hts0 := atoms_spec (ws := wl_PM_needPerson) B.pre
  have hts : ∀ w ∈ WG, w.before _ s = true := fun w hw => hts0 w (List.mem_cons_of_mem _ hw)
  have hne := B.noHandlers (hts0 _ List.mem_cons_self)
  have hown : s.vm.findClass "PlaceMoves" = some m.cls := findClass_of_methodNamed B.named
  have hlocks := B.notSynchronized
  have C : CX "PlaceMoves" prog_1_method_22_code p s m _ c G cI cZ := ⟨hx, hb, hown, hts, hK⟩
  have hl := lv_entry ([.ref (ad 0), .int a1]) (n := 2) (Nat.le_of_ble_eq_true rfl)
  rw [lg_entry_eq]
  generalize (lg_sl ([.ref (ad 0), .int a1]) ++ List.replicate (2 - (lg_sl ([.ref (ad 0), .int a1])).length) Slot.unset).toArray = ls at hl ⊢
  have hl : lv_has ls 2 [(0, .ref (ad 0)), (1, .int a1)] := hl
  unfold f_PM_needPerson at h
  refine lv_iload_n hx hb d_PM_needPerson_0 rfl (lv_at hl 1 rfl) ?_
  refine lv_bipush (v := 10) hx hb d_PM_needPerson_1 (by decide) ?_
  obtain ⟨r1, g_r1, h⟩ := ob_some h
  by_cases z_r1 : r1 = 0
  · rw [if_pos z_r1] at h
    refine cl_PM_132 (rest := []) C hfl hTE (hml.trans hl.1.symm) hP g_r1 z_r1 ⟨Nat.le_of_ble_eq_true rfl, Nat.le_of_ble_eq_true rfl⟩ (Nat.le_of_ble_eq_true rfl) d_PM_needPerson_3 ⟨Nat.zero_le _, Nat.zero_le _⟩ ?_
    exact tx_leafv h (W.vret hx hb hr (fun t ht _ => qt_v h ht) (fun _ hq => nomatch hq) d_PM_needPerson_6)
  · rw [if_neg z_r1] at h
    exact tx_lpv h (cl_PM_132_x (rest := []) C hfl hTE (hml.trans hl.1.symm) hP g_r1 z_r1 ⟨Nat.le_of_ble_eq_true rfl, Nat.le_of_ble_eq_true rfl⟩ (Nat.le_of_ble_eq_true rfl) d_PM_needPerson_3 (covers_of_empty hne _) hlocks (cE_v h) (fun _ _ t9 => qt_xv h z_r1 t9))
section RC
variable {p : Program} {l : Launch} {e : Env} {R : Room} {s : State} {m : MethodId} {args : Array Value} {below : List Frame} {meth : Method} {c : Code} {H : Heap} {locs : List Loc} {cells slots : Nat} {Q : State → Prop}
variable {cc : ByteArray} {pc : Nat} {ls : Array Slot} {rest : List Value} {G : va_G} {ad : Nat → Nat} {cI cZ : ClassId} {σ : Sg} {own : String}
theorem cl_PM_94 {b0 : Nat} (C : CX "PlaceMoves" cc p s m args c G cI cZ) (hfl : l.flags = pinnedFlags ++ [noTraceFlag]) (hTE : TE b0 s H) (hml : c.maxLocals = ls.size) (hP : va_P G clX (wX ad cI cZ σ) H) {x1 : Int32} {r : Nat} (hg : f_PM_needPerson σ x1 = some r) (z : r = 0) (hR : 7 + 1 ≤ R.frames ∧ 8 + (2 + 11) + 111 ≤ R.locals) (hrest : (rest.map fun v => v.category).sum ≤ 8) (hd : decode cc pc = .ok (.invokevirtual 94, 3)) (hcs : cells + 0 ≤ R.cells ∧ slots + 0 ≤ R.slots) (kk : W p l e R s m args below meth c H locs cells slots Q (F0 m (pc + 3) ls rest)) : W p l e R s m args below meth c H locs cells slots Q (F0 m pc ls (.int x1 :: .ref (ad 0) :: rest)) := by
  have M := c_PM_needPerson l hfl b0 G ad cI cZ σ x1 r hg
  rw [z] at M
  exact tx_call0 (v0 := none) (W.runV (As := [.int x1]) (rest := rest) ⟨C.1, C.2.1, hml, C.2.2.1, C.2.2.2.1⟩ (tx_toMet M (fun _ _ _ _ q9 => ⟨_, (q9.1 rfl).1⟩)) (cwV 1 C.2.2.2.1 (wg_V w_372 w_374 ws_3 w_1 w_375) rfl rfl rfl (by decide +kernel) hR) ⟨PcT.blind, va_recv C.2.2.2.2.1 hP (ci := 0) (q0 := 0) rfl rfl, fun U hU hZ => ⟨rfl, by rw [hU]; exact hP, C.2.2.2.2.warm hZ, by rw [hU]; exact hTE.warm hZ⟩⟩ rfl rfl rfl rfl (lv_room hrest) hd hcs) (fun _ _ _ q9 => q9.1 rfl) kk
theorem cl_PM_94_x {Qd : Array Value → State → Outcome → State → Prop} {b0 : Nat} (C : CX "PlaceMoves" cc p s m args c G cI cZ) (hfl : l.flags = pinnedFlags ++ [noTraceFlag]) (hTE : TE b0 s H) (hml : c.maxLocals = ls.size) (hP : va_P G clX (wX ad cI cZ σ) H) {x1 : Int32} {r : Nat} (hg : f_PM_needPerson σ x1 = some r) (z : ¬ r = 0) (hR : 7 + 1 ≤ R.frames ∧ 8 + (2 + 11) + 111 ≤ R.locals) (hrest : (rest.map fun v => v.category).sum ≤ 8) (hd : decode cc pc = .ok (.invokevirtual 94, 3)) (hout : ∀ x ∈ c.exceptionTable.toList, covers x pc = false) (hlocks : meth.locks = false) (hcs : 0 + cE r ≤ R.cells ∧ 0 + 6 * cE r ≤ R.slots) (kq : ∀ (q : Addr) (u : State), Thr r H (.threw q) u → Qd args s (.threw q) u) {free : Addr → Prop} (hf1 : ∀ z ∈ locs, free z.base := by exact fun _ hq => nomatch hq) : W p l e R s m args below meth c H locs 0 0 (tx_MQ below Qd args s (0 + cE r) (0 + 6 * cE r) free) (F0 m pc ls (.int x1 :: .ref (ad 0) :: rest)) :=
  tx_Vout (As := [.int x1]) (rest := rest) ⟨C.1, C.2.1, hml, C.2.2.1, C.2.2.2.1⟩ (c_PM_needPerson l hfl b0 G ad cI cZ σ x1 r hg) (cwV 1 C.2.2.2.1 (wg_V w_372 w_374 ws_3 w_1 w_375) rfl rfl rfl (by decide +kernel) hR) ⟨PcT.blind, va_recv C.2.2.2.2.1 hP (ci := 0) (q0 := 0) rfl rfl, fun U hU hZ => ⟨rfl, by rw [hU]; exact hP, C.2.2.2.2.warm hZ, by rw [hU]; exact hTE.warm hZ⟩⟩ (fun _ _ _ _ q9 => by obtain ⟨q, _, e9, _⟩ := q9.2 z; exact ⟨q, e9⟩) rfl rfl rfl rfl rfl rfl (lv_room hrest) hd hcs hout hlocks (fun q st t u hst q9 hu hv => kq q u (Thr.shift (by rw [← hst]; exact q9.2 z) hu hv)) hf1 (fun _ z9 => z9.elim)
end RC
abbrev wl_PM_needKeysOf : List Cond := .code ⟨"PlaceMoves", "needKeysOf", "(III)V"⟩ prog_1_method_26_code 6 none :: WG
set_option maxHeartbeats 4000000 in
set_option maxRecDepth 100000 in
theorem c_PM_needKeysOf (l : Launch) (hfl : l.flags = pinnedFlags ++ [noTraceFlag]) (b0 : Nat) (G : va_G) (ad : Nat → Nat) (cI cZ : ClassId) (σ : Sg) (a1 : Int32) (a2 : Int32) (a3 : Int32) (out : Nat) (h : f_PM_needKeysOf σ a1 a2 a3 = some out) : tx_Met l ⟨"PlaceMoves", "needKeysOf", "(III)V"⟩ wl_PM_needKeysOf (rmE 6 90 out) (PcT b0 G ad cI cZ σ [.ref (ad 0), .int a1, .int a2, .int a3]) (QTv out) (cE out) (6 * cE out) (fun _ => False) := by
  refine tx_ofW (cc := prog_1_method_26_code) (maxL := 6) (ret := none) (by decide) rfl ?_
  intro p e s m args below meth c s₁ B hml hv
  obtain ⟨rfl, hP, hK, hTE⟩ := hv
  have hx := B.exec
  have hb := B.bytes
  have hr := B.returns
  have hts0 := atoms_spec (ws := wl_PM_needKeysOf) B.pre
  have hts : ∀ w ∈ WG, w.before _ s = true := fun w hw => hts0 w (List.mem_cons_of_mem _ hw)
  have hne := B.noHandlers (hts0 _ List.mem_cons_self)
  have hown : s.vm.findClass "PlaceMoves" = some m.cls := findClass_of_methodNamed B.named
  have hlocks := B.notSynchronized
  have C : CX "PlaceMoves" prog_1_method_26_code p s m _ c G cI cZ := ⟨hx, hb, hown, hts, hK⟩
  have hl := lv_entry ([.ref (ad 0), .int a1, .int a2, .int a3]) (n := 6) (Nat.le_of_ble_eq_true rfl)
  rw [lg_entry_eq]
  generalize (lg_sl ([.ref (ad 0), .int a1, .int a2, .int a3]) ++ List.replicate (6 - (lg_sl ([.ref (ad 0), .int a1, .int a2, .int a3])).length) Slot.unset).toArray = ls at hl ⊢
  have hl : lv_has ls 6 [(0, .ref (ad 0)), (1, .int a1), (2, .int a2), (3, .int a3)] := hl
  unfold f_PM_needKeysOf at h
  refine lv_aload_n hx hb d_PM_needKeysOf_0 rfl (lv_at hl 0 rfl) ?_
  refine gf_PM_19 C hP d_PM_needKeysOf_1 ?_
  refine gf_PM_91 C hP d_PM_needKeysOf_4 ?_
  refine lv_iload_n hx hb d_PM_needKeysOf_7 rfl (lv_at hl 1 rfl) ?_
  obtain ⟨hin, h⟩ := gd_some h
  refine al_15 C hP hin d_PM_needKeysOf_8 ?_
  obtain ⟨y1, e_y1, h⟩ := lt1_some h
  refine W.eq (g2 := F0 m 9 ls (.int y1 :: [])) (by rw [e_y1]) ?_
  refine lv_istore (lv' := [(4, .int y1), (0, .ref (ad 0)), (1, .int a1), (2, .int a2), (3, .int a3)]) hx hb d_PM_needKeysOf_9 hl (by decide) rfl (fun ls hl => ?_)
  refine lv_iload hx hb d_PM_needKeysOf_11 (lv_at hl 0 rfl) ?_
  refine lv_if_eq (tgt := 60) hx hb d_PM_needKeysOf_13 (by decide) (fun c2 => ?_) (fun c2 => ?_)
  · rw [if_pos c2] at h
    refine lv_iconst (v := 1) hx hb d_PM_needKeysOf_60 (by decide) ?_
    refine lv_goto (tgt := 65) hx hb d_PM_needKeysOf_61 (by decide) ?_
    refine lv_istore (lv' := [(5, .int 1), (4, .int y1), (0, .ref (ad 0)), (1, .int a1), (2, .int a2), (3, .int a3)]) hx hb d_PM_needKeysOf_65 hl (by decide) rfl (fun ls hl => ?_)
    refine lv_iload hx hb d_PM_needKeysOf_67 (lv_at hl 0 rfl) ?_
    refine lv_if_ne (tgt := 82) hx hb d_PM_needKeysOf_69 (by decide) (fun c24 => ?_) (fun c24 => ?_)
    · rw [if_neg c24] at h
      exact tx_leafv h (W.vret hx hb hr (fun t ht _ => qt_v h ht) (fun _ hq => nomatch hq) d_PM_needKeysOf_82)
    · rw [if_pos c24] at h
      exact tx_lnv h (by decide) (nw_PM_198_203 C hfl hTE (hml.trans hl.1.symm) d_PM_needKeysOf_72 d_PM_needKeysOf_75 d_PM_needKeysOf_76 d_PM_needKeysOf_78 d_PM_needKeysOf_81 (covers_of_empty hne _) hlocks (cE_v1 h (by decide)) ⟨Nat.le_of_ble_eq_true rfl, Nat.le_of_ble_eq_true rfl⟩ (Nat.le_of_ble_eq_true rfl) (fun t t9 => qt_xv h (by decide) t9))
  · rw [if_neg c2] at h
    refine lv_iload hx hb d_PM_needKeysOf_16 (lv_at hl 0 rfl) ?_
    refine lv_iconst (v := 1) hx hb d_PM_needKeysOf_18 (by decide) ?_
    refine lv_icmp_ne (tgt := 31) hx hb d_PM_needKeysOf_19 (by decide) (fun c3 => ?_) (fun c3 => ?_)
    · rw [if_neg c3] at h
      have k31 : ∀ (x2 : Int32) (x3 : Int32) (x4 : Int32) (h : C_PM_needKeysOf_31 σ x2 x3 x4 = some out) (ls : Array Slot) (hl : lv_has ls 6 [(0, .ref (ad 0)), (2, .int x2), (3, .int x3), (4, .int x4)]), W p l e (headSpec wl_PM_needKeysOf (rmE 6 90 out)).room s m (([.ref (ad 0), .int a1, .int a2, .int a3] : List Value).toArray) below meth c s.heap [] 0 0 (tx_MQ below (QTv out) (([.ref (ad 0), .int a1, .int a2, .int a3] : List Value).toArray) s (cE out) (6 * cE out) (fun _ => False)) (F0 m 31 ls []) := by
        intro x2 x3 x4 h ls hl
        unfold C_PM_needKeysOf_31 at h
        refine lv_iload hx hb d_PM_needKeysOf_31 (lv_at hl 3 rfl) ?_
        refine lv_iconst (v := 2) hx hb d_PM_needKeysOf_33 (by decide) ?_
        refine lv_icmp_ne (tgt := 64) hx hb d_PM_needKeysOf_34 (by decide) (fun c15 => ?_) (fun c15 => ?_)
        · rw [if_neg c15] at h
          refine lv_iconst (v := 0) hx hb d_PM_needKeysOf_64 (by decide) ?_
          refine lv_istore (lv' := [(5, .int 0), (0, .ref (ad 0)), (2, .int x2), (3, .int x3), (4, .int x4)]) hx hb d_PM_needKeysOf_65 hl (by decide) rfl (fun ls hl => ?_)
          refine lv_iload hx hb d_PM_needKeysOf_67 (lv_at hl 0 rfl) ?_
          refine lv_if_ne (tgt := 82) hx hb d_PM_needKeysOf_69 (by decide) (fun c23 => ?_) (fun c23 => ?_)
          · rw [if_neg c23] at h
            exact tx_leafv h (W.vret hx hb hr (fun t ht _ => qt_v h ht) (fun _ hq => nomatch hq) d_PM_needKeysOf_82)
          · rw [if_pos c23] at h
            exact tx_lnv h (by decide) (nw_PM_198_203 C hfl hTE (hml.trans hl.1.symm) d_PM_needKeysOf_72 d_PM_needKeysOf_75 d_PM_needKeysOf_76 d_PM_needKeysOf_78 d_PM_needKeysOf_81 (covers_of_empty hne _) hlocks (cE_v1 h (by decide)) ⟨Nat.le_of_ble_eq_true rfl, Nat.le_of_ble_eq_true rfl⟩ (Nat.le_of_ble_eq_true rfl) (fun t t9 => qt_xv h (by decide) t9))
        · rw [if_pos c15] at h
          refine lv_aload_n hx hb d_PM_needKeysOf_37 rfl (lv_at hl 0 rfl) ?_
          refine gf_PM_51 C hP d_PM_needKeysOf_38 ?_
          refine lv_iload_n hx hb d_PM_needKeysOf_41 rfl (lv_at hl 1 rfl) ?_
          obtain ⟨hin, h⟩ := gd_some h
          refine al_7 C hP hin d_PM_needKeysOf_42 ?_
          refine lv_if_eq (tgt := 64) hx hb d_PM_needKeysOf_43 (by decide) (fun c16 => ?_) (fun c16 => ?_)
          · rw [if_pos c16] at h
            refine lv_iconst (v := 0) hx hb d_PM_needKeysOf_64 (by decide) ?_
            refine lv_istore (lv' := [(5, .int 0), (0, .ref (ad 0)), (2, .int x2), (3, .int x3), (4, .int x4)]) hx hb d_PM_needKeysOf_65 hl (by decide) rfl (fun ls hl => ?_)
            refine lv_iload hx hb d_PM_needKeysOf_67 (lv_at hl 0 rfl) ?_
            refine lv_if_ne (tgt := 82) hx hb d_PM_needKeysOf_69 (by decide) (fun c22 => ?_) (fun c22 => ?_)
            · rw [if_neg c22] at h
              exact tx_leafv h (W.vret hx hb hr (fun t ht _ => qt_v h ht) (fun _ hq => nomatch hq) d_PM_needKeysOf_82)
            · rw [if_pos c22] at h
              exact tx_lnv h (by decide) (nw_PM_198_203 C hfl hTE (hml.trans hl.1.symm) d_PM_needKeysOf_72 d_PM_needKeysOf_75 d_PM_needKeysOf_76 d_PM_needKeysOf_78 d_PM_needKeysOf_81 (covers_of_empty hne _) hlocks (cE_v1 h (by decide)) ⟨Nat.le_of_ble_eq_true rfl, Nat.le_of_ble_eq_true rfl⟩ (Nat.le_of_ble_eq_true rfl) (fun t t9 => qt_xv h (by decide) t9))
          · rw [if_neg c16] at h
            refine lv_aload_n hx hb d_PM_needKeysOf_46 rfl (lv_at hl 0 rfl) ?_
            refine gf_PM_51 C hP d_PM_needKeysOf_47 ?_
            refine lv_iload_n hx hb d_PM_needKeysOf_50 rfl (lv_at hl 2 rfl) ?_
            obtain ⟨hin, h⟩ := gd_some h
            refine al_7 C hP hin d_PM_needKeysOf_51 ?_
            refine lv_if_eq (tgt := 64) hx hb d_PM_needKeysOf_52 (by decide) (fun c17 => ?_) (fun c17 => ?_)
            · rw [if_pos c17] at h
              refine lv_iconst (v := 0) hx hb d_PM_needKeysOf_64 (by decide) ?_
              refine lv_istore (lv' := [(5, .int 0), (0, .ref (ad 0)), (2, .int x2), (3, .int x3), (4, .int x4)]) hx hb d_PM_needKeysOf_65 hl (by decide) rfl (fun ls hl => ?_)
              refine lv_iload hx hb d_PM_needKeysOf_67 (lv_at hl 0 rfl) ?_
              refine lv_if_ne (tgt := 82) hx hb d_PM_needKeysOf_69 (by decide) (fun c21 => ?_) (fun c21 => ?_)
              · rw [if_neg c21] at h
                exact tx_leafv h (W.vret hx hb hr (fun t ht _ => qt_v h ht) (fun _ hq => nomatch hq) d_PM_needKeysOf_82)
              · rw [if_pos c21] at h
                exact tx_lnv h (by decide) (nw_PM_198_203 C hfl hTE (hml.trans hl.1.symm) d_PM_needKeysOf_72 d_PM_needKeysOf_75 d_PM_needKeysOf_76 d_PM_needKeysOf_78 d_PM_needKeysOf_81 (covers_of_empty hne _) hlocks (cE_v1 h (by decide)) ⟨Nat.le_of_ble_eq_true rfl, Nat.le_of_ble_eq_true rfl⟩ (Nat.le_of_ble_eq_true rfl) (fun t t9 => qt_xv h (by decide) t9))
            · rw [if_neg c17] at h
              refine lv_iload_n hx hb d_PM_needKeysOf_55 rfl (lv_at hl 1 rfl) ?_
              refine lv_iload_n hx hb d_PM_needKeysOf_56 rfl (lv_at hl 2 rfl) ?_
              refine lv_icmp_eq (tgt := 64) hx hb d_PM_needKeysOf_57 (by decide) (fun c18 => ?_) (fun c18 => ?_)
              · rw [if_pos c18] at h
                refine lv_iconst (v := 0) hx hb d_PM_needKeysOf_64 (by decide) ?_
                refine lv_istore (lv' := [(5, .int 0), (0, .ref (ad 0)), (2, .int x2), (3, .int x3), (4, .int x4)]) hx hb d_PM_needKeysOf_65 hl (by decide) rfl (fun ls hl => ?_)
                refine lv_iload hx hb d_PM_needKeysOf_67 (lv_at hl 0 rfl) ?_
                refine lv_if_ne (tgt := 82) hx hb d_PM_needKeysOf_69 (by decide) (fun c20 => ?_) (fun c20 => ?_)
                · rw [if_neg c20] at h
                  exact tx_leafv h (W.vret hx hb hr (fun t ht _ => qt_v h ht) (fun _ hq => nomatch hq) d_PM_needKeysOf_82)
                · rw [if_pos c20] at h
                  exact tx_lnv h (by decide) (nw_PM_198_203 C hfl hTE (hml.trans hl.1.symm) d_PM_needKeysOf_72 d_PM_needKeysOf_75 d_PM_needKeysOf_76 d_PM_needKeysOf_78 d_PM_needKeysOf_81 (covers_of_empty hne _) hlocks (cE_v1 h (by decide)) ⟨Nat.le_of_ble_eq_true rfl, Nat.le_of_ble_eq_true rfl⟩ (Nat.le_of_ble_eq_true rfl) (fun t t9 => qt_xv h (by decide) t9))
              · rw [if_neg c18] at h
                refine lv_iconst (v := 1) hx hb d_PM_needKeysOf_60 (by decide) ?_
                refine lv_goto (tgt := 65) hx hb d_PM_needKeysOf_61 (by decide) ?_
                refine lv_istore (lv' := [(5, .int 1), (0, .ref (ad 0)), (2, .int x2), (3, .int x3), (4, .int x4)]) hx hb d_PM_needKeysOf_65 hl (by decide) rfl (fun ls hl => ?_)
                refine lv_iload hx hb d_PM_needKeysOf_67 (lv_at hl 0 rfl) ?_
                refine lv_if_ne (tgt := 82) hx hb d_PM_needKeysOf_69 (by decide) (fun c19 => ?_) (fun c19 => ?_)
                · rw [if_neg c19] at h
                  exact tx_leafv h (W.vret hx hb hr (fun t ht _ => qt_v h ht) (fun _ hq => nomatch hq) d_PM_needKeysOf_82)
                · rw [if_pos c19] at h
                  exact tx_lnv h (by decide) (nw_PM_198_203 C hfl hTE (hml.trans hl.1.symm) d_PM_needKeysOf_72 d_PM_needKeysOf_75 d_PM_needKeysOf_76 d_PM_needKeysOf_78 d_PM_needKeysOf_81 (covers_of_empty hne _) hlocks (cE_v1 h (by decide)) ⟨Nat.le_of_ble_eq_true rfl, Nat.le_of_ble_eq_true rfl⟩ (Nat.le_of_ble_eq_true rfl) (fun t t9 => qt_xv h (by decide) t9))
      exact k31 a2 a3 y1 h _ (lv_sub hl [1, 3, 4, 0] rfl)
    · rw [if_pos c3] at h
      refine lv_aload_n hx hb d_PM_needKeysOf_22 rfl (lv_at hl 1 rfl) ?_
      refine gf_PM_51 C hP d_PM_needKeysOf_23 ?_
      refine lv_iload_n hx hb d_PM_needKeysOf_26 rfl (lv_at hl 3 rfl) ?_
      obtain ⟨hin, h⟩ := gd_some h
      refine al_7 C hP hin d_PM_needKeysOf_27 ?_
      refine lv_if_ne (tgt := 60) hx hb d_PM_needKeysOf_28 (by decide) (fun c4 => ?_) (fun c4 => ?_)
      · rw [if_neg c4] at h
        refine lv_iconst (v := 1) hx hb d_PM_needKeysOf_60 (by decide) ?_
        refine lv_goto (tgt := 65) hx hb d_PM_needKeysOf_61 (by decide) ?_
        refine lv_istore (lv' := [(5, .int 1), (4, .int y1), (0, .ref (ad 0)), (1, .int a1), (2, .int a2), (3, .int a3)]) hx hb d_PM_needKeysOf_65 hl (by decide) rfl (fun ls hl => ?_)
        refine lv_iload hx hb d_PM_needKeysOf_67 (lv_at hl 0 rfl) ?_
        refine lv_if_ne (tgt := 82) hx hb d_PM_needKeysOf_69 (by decide) (fun c14 => ?_) (fun c14 => ?_)
        · rw [if_neg c14] at h
          exact tx_leafv h (W.vret hx hb hr (fun t ht _ => qt_v h ht) (fun _ hq => nomatch hq) d_PM_needKeysOf_82)
        · rw [if_pos c14] at h
          exact tx_lnv h (by decide) (nw_PM_198_203 C hfl hTE (hml.trans hl.1.symm) d_PM_needKeysOf_72 d_PM_needKeysOf_75 d_PM_needKeysOf_76 d_PM_needKeysOf_78 d_PM_needKeysOf_81 (covers_of_empty hne _) hlocks (cE_v1 h (by decide)) ⟨Nat.le_of_ble_eq_true rfl, Nat.le_of_ble_eq_true rfl⟩ (Nat.le_of_ble_eq_true rfl) (fun t t9 => qt_xv h (by decide) t9))
      · rw [if_pos c4] at h
        have k31 : ∀ (x2 : Int32) (x3 : Int32) (x4 : Int32) (h : C_PM_needKeysOf_31 σ x2 x3 x4 = some out) (ls : Array Slot) (hl : lv_has ls 6 [(0, .ref (ad 0)), (2, .int x2), (3, .int x3), (4, .int x4)]), W p l e (headSpec wl_PM_needKeysOf (rmE 6 90 out)).room s m (([.ref (ad 0), .int a1, .int a2, .int a3] : List Value).toArray) below meth c s.heap [] 0 0 (tx_MQ below (QTv out) (([.ref (ad 0), .int a1, .int a2, .int a3] : List Value).toArray) s (cE out) (6 * cE out) (fun _ => False)) (F0 m 31 ls []) := by
          intro x2 x3 x4 h ls hl
          unfold C_PM_needKeysOf_31 at h
          refine lv_iload hx hb d_PM_needKeysOf_31 (lv_at hl 3 rfl) ?_
          refine lv_iconst (v := 2) hx hb d_PM_needKeysOf_33 (by decide) ?_
          refine lv_icmp_ne (tgt := 64) hx hb d_PM_needKeysOf_34 (by decide) (fun c5 => ?_) (fun c5 => ?_)
          · rw [if_neg c5] at h
            refine lv_iconst (v := 0) hx hb d_PM_needKeysOf_64 (by decide) ?_
            refine lv_istore (lv' := [(5, .int 0), (0, .ref (ad 0)), (2, .int x2), (3, .int x3), (4, .int x4)]) hx hb d_PM_needKeysOf_65 hl (by decide) rfl (fun ls hl => ?_)
            refine lv_iload hx hb d_PM_needKeysOf_67 (lv_at hl 0 rfl) ?_
            refine lv_if_ne (tgt := 82) hx hb d_PM_needKeysOf_69 (by decide) (fun c13 => ?_) (fun c13 => ?_)
            · rw [if_neg c13] at h
              exact tx_leafv h (W.vret hx hb hr (fun t ht _ => qt_v h ht) (fun _ hq => nomatch hq) d_PM_needKeysOf_82)
            · rw [if_pos c13] at h
              exact tx_lnv h (by decide) (nw_PM_198_203 C hfl hTE (hml.trans hl.1.symm) d_PM_needKeysOf_72 d_PM_needKeysOf_75 d_PM_needKeysOf_76 d_PM_needKeysOf_78 d_PM_needKeysOf_81 (covers_of_empty hne _) hlocks (cE_v1 h (by decide)) ⟨Nat.le_of_ble_eq_true rfl, Nat.le_of_ble_eq_true rfl⟩ (Nat.le_of_ble_eq_true rfl) (fun t t9 => qt_xv h (by decide) t9))
          · rw [if_pos c5] at h
            refine lv_aload_n hx hb d_PM_needKeysOf_37 rfl (lv_at hl 0 rfl) ?_
            refine gf_PM_51 C hP d_PM_needKeysOf_38 ?_
            refine lv_iload_n hx hb d_PM_needKeysOf_41 rfl (lv_at hl 1 rfl) ?_
            obtain ⟨hin, h⟩ := gd_some h
            refine al_7 C hP hin d_PM_needKeysOf_42 ?_
            refine lv_if_eq (tgt := 64) hx hb d_PM_needKeysOf_43 (by decide) (fun c6 => ?_) (fun c6 => ?_)
            · rw [if_pos c6] at h
              refine lv_iconst (v := 0) hx hb d_PM_needKeysOf_64 (by decide) ?_
              refine lv_istore (lv' := [(5, .int 0), (0, .ref (ad 0)), (2, .int x2), (3, .int x3), (4, .int x4)]) hx hb d_PM_needKeysOf_65 hl (by decide) rfl (fun ls hl => ?_)
              refine lv_iload hx hb d_PM_needKeysOf_67 (lv_at hl 0 rfl) ?_
              refine lv_if_ne (tgt := 82) hx hb d_PM_needKeysOf_69 (by decide) (fun c12 => ?_) (fun c12 => ?_)
              · rw [if_neg c12] at h
                exact tx_leafv h (W.vret hx hb hr (fun t ht _ => qt_v h ht) (fun _ hq => nomatch hq) d_PM_needKeysOf_82)
              · rw [if_pos c12] at h
                exact tx_lnv h (by decide) (nw_PM_198_203 C hfl hTE (hml.trans hl.1.symm) d_PM_needKeysOf_72 d_PM_needKeysOf_75 d_PM_needKeysOf_76 d_PM_needKeysOf_78 d_PM_needKeysOf_81 (covers_of_empty hne _) hlocks (cE_v1 h (by decide)) ⟨Nat.le_of_ble_eq_true rfl, Nat.le_of_ble_eq_true rfl⟩ (Nat.le_of_ble_eq_true rfl) (fun t t9 => qt_xv h (by decide) t9))
            · rw [if_neg c6] at h
              refine lv_aload_n hx hb d_PM_needKeysOf_46 rfl (lv_at hl 0 rfl) ?_
              refine gf_PM_51 C hP d_PM_needKeysOf_47 ?_
              refine lv_iload_n hx hb d_PM_needKeysOf_50 rfl (lv_at hl 2 rfl) ?_
              obtain ⟨hin, h⟩ := gd_some h
              refine al_7 C hP hin d_PM_needKeysOf_51 ?_
              refine lv_if_eq (tgt := 64) hx hb d_PM_needKeysOf_52 (by decide) (fun c7 => ?_) (fun c7 => ?_)
              · rw [if_pos c7] at h
                refine lv_iconst (v := 0) hx hb d_PM_needKeysOf_64 (by decide) ?_
                refine lv_istore (lv' := [(5, .int 0), (0, .ref (ad 0)), (2, .int x2), (3, .int x3), (4, .int x4)]) hx hb d_PM_needKeysOf_65 hl (by decide) rfl (fun ls hl => ?_)
                refine lv_iload hx hb d_PM_needKeysOf_67 (lv_at hl 0 rfl) ?_
                refine lv_if_ne (tgt := 82) hx hb d_PM_needKeysOf_69 (by decide) (fun c11 => ?_) (fun c11 => ?_)
                · rw [if_neg c11] at h
                  exact tx_leafv h (W.vret hx hb hr (fun t ht _ => qt_v h ht) (fun _ hq => nomatch hq) d_PM_needKeysOf_82)
                · rw [if_pos c11] at h
                  exact tx_lnv h (by decide) (nw_PM_198_203 C hfl hTE (hml.trans hl.1.symm) d_PM_needKeysOf_72 d_PM_needKeysOf_75 d_PM_needKeysOf_76 d_PM_needKeysOf_78 d_PM_needKeysOf_81 (covers_of_empty hne _) hlocks (cE_v1 h (by decide)) ⟨Nat.le_of_ble_eq_true rfl, Nat.le_of_ble_eq_true rfl⟩ (Nat.le_of_ble_eq_true rfl) (fun t t9 => qt_xv h (by decide) t9))
              · rw [if_neg c7] at h
                refine lv_iload_n hx hb d_PM_needKeysOf_55 rfl (lv_at hl 1 rfl) ?_
                refine lv_iload_n hx hb d_PM_needKeysOf_56 rfl (lv_at hl 2 rfl) ?_
                refine lv_icmp_eq (tgt := 64) hx hb d_PM_needKeysOf_57 (by decide) (fun c8 => ?_) (fun c8 => ?_)
                · rw [if_pos c8] at h
                  refine lv_iconst (v := 0) hx hb d_PM_needKeysOf_64 (by decide) ?_
                  refine lv_istore (lv' := [(5, .int 0), (0, .ref (ad 0)), (2, .int x2), (3, .int x3), (4, .int x4)]) hx hb d_PM_needKeysOf_65 hl (by decide) rfl (fun ls hl => ?_)
                  refine lv_iload hx hb d_PM_needKeysOf_67 (lv_at hl 0 rfl) ?_
                  refine lv_if_ne (tgt := 82) hx hb d_PM_needKeysOf_69 (by decide) (fun c10 => ?_) (fun c10 => ?_)
                  · rw [if_neg c10] at h
                    exact tx_leafv h (W.vret hx hb hr (fun t ht _ => qt_v h ht) (fun _ hq => nomatch hq) d_PM_needKeysOf_82)
                  · rw [if_pos c10] at h
                    exact tx_lnv h (by decide) (nw_PM_198_203 C hfl hTE (hml.trans hl.1.symm) d_PM_needKeysOf_72 d_PM_needKeysOf_75 d_PM_needKeysOf_76 d_PM_needKeysOf_78 d_PM_needKeysOf_81 (covers_of_empty hne _) hlocks (cE_v1 h (by decide)) ⟨Nat.le_of_ble_eq_true rfl, Nat.le_of_ble_eq_true rfl⟩ (Nat.le_of_ble_eq_true rfl) (fun t t9 => qt_xv h (by decide) t9))
                · rw [if_neg c8] at h
                  refine lv_iconst (v := 1) hx hb d_PM_needKeysOf_60 (by decide) ?_
                  refine lv_goto (tgt := 65) hx hb d_PM_needKeysOf_61 (by decide) ?_
                  refine lv_istore (lv' := [(5, .int 1), (0, .ref (ad 0)), (2, .int x2), (3, .int x3), (4, .int x4)]) hx hb d_PM_needKeysOf_65 hl (by decide) rfl (fun ls hl => ?_)
                  refine lv_iload hx hb d_PM_needKeysOf_67 (lv_at hl 0 rfl) ?_
                  refine lv_if_ne (tgt := 82) hx hb d_PM_needKeysOf_69 (by decide) (fun c9 => ?_) (fun c9 => ?_)
                  · rw [if_neg c9] at h
                    exact tx_leafv h (W.vret hx hb hr (fun t ht _ => qt_v h ht) (fun _ hq => nomatch hq) d_PM_needKeysOf_82)
                  · rw [if_pos c9] at h
                    exact tx_lnv h (by decide) (nw_PM_198_203 C hfl hTE (hml.trans hl.1.symm) d_PM_needKeysOf_72 d_PM_needKeysOf_75 d_PM_needKeysOf_76 d_PM_needKeysOf_78 d_PM_needKeysOf_81 (covers_of_empty hne _) hlocks (cE_v1 h (by decide)) ⟨Nat.le_of_ble_eq_true rfl, Nat.le_of_ble_eq_true rfl⟩ (Nat.le_of_ble_eq_true rfl) (fun t t9 => qt_xv h (by decide) t9))
        exact k31 a2 a3 y1 h _ (lv_sub hl [1, 3, 4, 0] rfl)
section RC
variable {p : Program} {l : Launch} {e : Env} {R : Room} {s : State} {m : MethodId} {args : Array Value} {below : List Frame} {meth : Method} {c : Code} {H : Heap} {locs : List Loc} {cells slots : Nat} {Q : State → Prop}
variable {cc : ByteArray} {pc : Nat} {ls : Array Slot} {rest : List Value} {G : va_G} {ad : Nat → Nat} {cI cZ : ClassId} {σ : Sg} {own : String}
theorem cl_PM_102 {b0 : Nat} (C : CX "PlaceMoves" cc p s m args c G cI cZ) (hfl : l.flags = pinnedFlags ++ [noTraceFlag]) (hTE : TE b0 s H) (hml : c.maxLocals = ls.size) (hP : va_P G clX (wX ad cI cZ σ) H) {x1 : Int32} {x2 : Int32} {x3 : Int32} {r : Nat} (hg : f_PM_needKeysOf σ x1 x2 x3 = some r) (z : r = 0) (hR : 6 + 1 ≤ R.frames ∧ 8 + (6 + 11) + 90 ≤ R.locals) (hrest : (rest.map fun v => v.category).sum ≤ 8) (hd : decode cc pc = .ok (.invokevirtual 102, 3)) (hcs : cells + 0 ≤ R.cells ∧ slots + 0 ≤ R.slots) (kk : W p l e R s m args below meth c H locs cells slots Q (F0 m (pc + 3) ls rest)) : W p l e R s m args below meth c H locs cells slots Q (F0 m pc ls (.int x3 :: .int x2 :: .int x1 :: .ref (ad 0) :: rest)) := by
  have M := c_PM_needKeysOf l hfl b0 G ad cI cZ σ x1 x2 x3 r hg
  rw [z] at M
  exact tx_call0 (v0 := none) (W.runV (As := [.int x1, .int x2, .int x3]) (rest := rest) ⟨C.1, C.2.1, hml, C.2.2.1, C.2.2.2.1⟩ (tx_toMet M (fun _ _ _ _ q9 => ⟨_, (q9.1 rfl).1⟩)) (cwV 3 C.2.2.2.1 (wg_V w_390 w_392 ws_4 w_1 w_393) rfl rfl rfl (by decide +kernel) hR) ⟨PcT.blind, va_recv C.2.2.2.2.1 hP (ci := 0) (q0 := 0) rfl rfl, fun U hU hZ => ⟨rfl, by rw [hU]; exact hP, C.2.2.2.2.warm hZ, by rw [hU]; exact hTE.warm hZ⟩⟩ rfl rfl rfl rfl (lv_room hrest) hd hcs) (fun _ _ _ q9 => q9.1 rfl) kk
theorem cl_PM_102_x {Qd : Array Value → State → Outcome → State → Prop} {b0 : Nat} (C : CX "PlaceMoves" cc p s m args c G cI cZ) (hfl : l.flags = pinnedFlags ++ [noTraceFlag]) (hTE : TE b0 s H) (hml : c.maxLocals = ls.size) (hP : va_P G clX (wX ad cI cZ σ) H) {x1 : Int32} {x2 : Int32} {x3 : Int32} {r : Nat} (hg : f_PM_needKeysOf σ x1 x2 x3 = some r) (z : ¬ r = 0) (hR : 6 + 1 ≤ R.frames ∧ 8 + (6 + 11) + 90 ≤ R.locals) (hrest : (rest.map fun v => v.category).sum ≤ 8) (hd : decode cc pc = .ok (.invokevirtual 102, 3)) (hout : ∀ x ∈ c.exceptionTable.toList, covers x pc = false) (hlocks : meth.locks = false) (hcs : 0 + cE r ≤ R.cells ∧ 0 + 6 * cE r ≤ R.slots) (kq : ∀ (q : Addr) (u : State), Thr r H (.threw q) u → Qd args s (.threw q) u) {free : Addr → Prop} (hf1 : ∀ z ∈ locs, free z.base := by exact fun _ hq => nomatch hq) : W p l e R s m args below meth c H locs 0 0 (tx_MQ below Qd args s (0 + cE r) (0 + 6 * cE r) free) (F0 m pc ls (.int x3 :: .int x2 :: .int x1 :: .ref (ad 0) :: rest)) :=
  tx_Vout (As := [.int x1, .int x2, .int x3]) (rest := rest) ⟨C.1, C.2.1, hml, C.2.2.1, C.2.2.2.1⟩ (c_PM_needKeysOf l hfl b0 G ad cI cZ σ x1 x2 x3 r hg) (cwV 3 C.2.2.2.1 (wg_V w_390 w_392 ws_4 w_1 w_393) rfl rfl rfl (by decide +kernel) hR) ⟨PcT.blind, va_recv C.2.2.2.2.1 hP (ci := 0) (q0 := 0) rfl rfl, fun U hU hZ => ⟨rfl, by rw [hU]; exact hP, C.2.2.2.2.warm hZ, by rw [hU]; exact hTE.warm hZ⟩⟩ (fun _ _ _ _ q9 => by obtain ⟨q, _, e9, _⟩ := q9.2 z; exact ⟨q, e9⟩) rfl rfl rfl rfl rfl rfl (lv_room hrest) hd hcs hout hlocks (fun q st t u hst q9 hu hv => kq q u (Thr.shift (by rw [← hst]; exact q9.2 z) hu hv)) hf1 (fun _ z9 => z9.elim)
end RC
abbrev wl_PM_where : List Cond := .code ⟨"PlaceMoves", "where", "(II)I"⟩ prog_1_method_10_code 3 (some FieldType.int) :: WG
set_option maxHeartbeats 4000000 in
set_option maxRecDepth 100000 in
theorem c_PM_where (l : Launch) (hfl : l.flags = pinnedFlags ++ [noTraceFlag]) (b0 : Nat) (G : va_G) (ad : Nat → Nat) (cI cZ : ClassId) (σ : Sg) (a1 : Int32) (a2 : Int32) (out : Nat × Int32) (h : f_PM_where σ a1 a2 = some out) : tx_Met l ⟨"PlaceMoves", "where", "(II)I"⟩ wl_PM_where (rmE 8 132 out.1) (PcT b0 G ad cI cZ σ [.ref (ad 0), .int a1, .int a2]) (QTi out) (cE out.1) (6 * cE out.1) (fun _ => False) := by
  refine tx_ofW (cc := prog_1_method_10_code) (maxL := 3) (ret := (some FieldType.int)) (by decide) rfl ?_
  intro p e s m args below meth c s₁ B hml hv
  obtain ⟨rfl, hP, hK, hTE⟩ := hv
  have hx := B.exec
  have hb := B.bytes
  have hr := B.returns
  have hts0 := atoms_spec (ws := wl_PM_where) B.pre
  have hts : ∀ w ∈ WG, w.before _ s = true := fun w hw => hts0 w (List.mem_cons_of_mem _ hw)
  have hne := B.noHandlers (hts0 _ List.mem_cons_self)
  have hown : s.vm.findClass "PlaceMoves" = some m.cls := findClass_of_methodNamed B.named
  have hlocks := B.notSynchronized
  have C : CX "PlaceMoves" prog_1_method_10_code p s m _ c G cI cZ := ⟨hx, hb, hown, hts, hK⟩
  have hl := lv_entry ([.ref (ad 0), .int a1, .int a2]) (n := 3) (Nat.le_of_ble_eq_true rfl)
  rw [lg_entry_eq]
  generalize (lg_sl ([.ref (ad 0), .int a1, .int a2]) ++ List.replicate (3 - (lg_sl ([.ref (ad 0), .int a1, .int a2])).length) Slot.unset).toArray = ls at hl ⊢
  have hl : lv_has ls 3 [(0, .ref (ad 0)), (1, .int a1), (2, .int a2)] := hl
  unfold f_PM_where at h
  refine lv_aload_n hx hb d_PM_where_0 rfl (lv_at hl 0 rfl) ?_
  refine lv_iload_n hx hb d_PM_where_1 rfl (lv_at hl 1 rfl) ?_
  obtain ⟨r1, g_r1, h⟩ := ob_some h
  by_cases z_r1 : r1 = 0
  · rw [if_pos z_r1] at h
    refine cl_PM_88 (rest := []) C hfl hTE (hml.trans hl.1.symm) hP g_r1 z_r1 ⟨Nat.le_of_ble_eq_true rfl, Nat.le_of_ble_eq_true rfl⟩ (Nat.le_of_ble_eq_true rfl) d_PM_where_2 ⟨Nat.zero_le _, Nat.zero_le _⟩ ?_
    refine lv_aload_n hx hb d_PM_where_5 rfl (lv_at hl 0 rfl) ?_
    refine lv_iload_n hx hb d_PM_where_6 rfl (lv_at hl 1 rfl) ?_
    refine lv_iload_n hx hb d_PM_where_7 rfl (lv_at hl 2 rfl) ?_
    obtain ⟨r2, g_r2, h⟩ := ob_some h
    refine cl_PM_105 (rest := []) C (hml.trans hl.1.symm) hP g_r2 ⟨Nat.le_of_ble_eq_true rfl, Nat.le_of_ble_eq_true rfl⟩ (Nat.le_of_ble_eq_true rfl) d_PM_where_8 ⟨Nat.zero_le _, Nat.zero_le _⟩ ?_
    exact tx_leafi h (W.iret hx hb hr (fun t ht _ => qt_i h ht) (fun _ hq => nomatch hq) d_PM_where_11)
  · rw [if_neg z_r1] at h
    exact tx_lpi h (cl_PM_88_x (rest := []) C hfl hTE (hml.trans hl.1.symm) hP g_r1 z_r1 ⟨Nat.le_of_ble_eq_true rfl, Nat.le_of_ble_eq_true rfl⟩ (Nat.le_of_ble_eq_true rfl) d_PM_where_2 (covers_of_empty hne _) hlocks (cE_i h) (fun _ _ t9 => qt_xi h z_r1 t9))
