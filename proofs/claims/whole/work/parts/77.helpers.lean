theorem qh {G : va_G} {ad : Nat → Nat} {cI cZ cJ : ClassId} {aO : Nat} {out : Int32 × (Nat → Int64) × Sg} {r : Int32} {y : Nat → Int64} {σ : Sg} {a : Array Value} {s t : State} {H : Heap} {locs : List Loc} (h : some (r, y, σ) = some out) (ht : t.heap = H) (hP : va_P G clX (wH ad cI cZ cJ aO σ y) H) (hS : va_S (AH ad aO) s.heap H locs) : QH G ad cI cZ cJ aO out a s (.returned (some (.int r))) t := by
  cases h
  exact ⟨⟨r, (), rfl, rfl, by show va_P _ _ _ t.heap; rw [ht]; exact hP⟩, hS.F ht⟩
theorem exN1 : exN 1 = "java/util/NoSuchElementException" := rfl
theorem exN2 : exN 2 = "java/lang/IllegalArgumentException" := rfl
theorem exN3 : exN 3 = "java/lang/IllegalStateException" := rfl
abbrev wl_LW_place : List Cond := .codeWith ⟨"PlaceMovesLaw", "place", "(LPlaceMoves;II[J)I"⟩ method_3_code 5 (some FieldType.int) [(0, 10, 13, 13), (0, 10, 17, 15), (0, 10, 21, 17)] :: WG
set_option maxHeartbeats 4000000 in
set_option maxRecDepth 100000 in
theorem c_LW_place (l : Launch) (hfl : l.flags = pinnedFlags ++ [noTraceFlag]) (b0 : Nat) (G : va_G) (ad : Nat → Nat) (cI cZ cJ : ClassId) (aO : Nat) (hD : DH b0 ad aO) (σ : Sg) (y : Nat → Int64) (a1 : Int32) (a2 : Int32) (out : Int32 × (Nat → Int64) × Sg) (h : h_place σ y a1 a2 = some out) : Met l ⟨"PlaceMovesLaw", "place", "(LPlaceMoves;II[J)I"⟩ wl_LW_place ({ frames := 9, cells := 1, slots := 6, locals := 154 } : Room) (PcH b0 G ad cI cZ cJ aO σ y [.ref (ad 0), .int a1, .int a2, .ref aO]) (QH G ad cI cZ cJ aO out) 1 6 (AH ad aO) := by
  refine va_MetW (cc := method_3_code) (maxL := 5) (ret := (some FieldType.int)) (hh := [(0, 10, 13, 13), (0, 10, 17, 15), (0, 10, 21, 17)]) (by decide) rfl ?_
  intro p e s m args below meth c s₁ B hml hv
  obtain ⟨rfl, hP, hE⟩ := hv
  have hx := B.exec
  have hb := B.bytes
  have hr := B.returns
  have hts0 := atoms_spec (ws := wl_LW_place) B.pre
  have hts : ∀ w ∈ WG, w.before _ s = true := fun w hw => hts0 w (List.mem_cons_of_mem _ hw)
  have htab := tx_table B (hts0 _ List.mem_cons_self)
  have hown : s.vm.findClass "PlaceMovesLaw" = some m.cls := findClass_of_methodNamed B.named
  have hlocks := B.notSynchronized
  have hS : va_S (AH ad aO) s.heap s.heap [] := va_S.rf
  have hl := lv_entry ([.ref (ad 0), .int a1, .int a2, .ref aO]) (n := 5) (Nat.le_of_ble_eq_true rfl)
  rw [lg_entry_eq]
  generalize (lg_sl ([.ref (ad 0), .int a1, .int a2, .ref aO]) ++ List.replicate (5 - (lg_sl ([.ref (ad 0), .int a1, .int a2, .ref aO])).length) Slot.unset).toArray = ls at hl ⊢
  have hl : lv_has ls 5 [(0, .ref (ad 0)), (1, .int a1), (2, .int a2), (3, .ref aO)] := hl
  unfold h_place at h
  obtain ⟨r, g_r, h⟩ := ob_some h
  refine lv_aload_n hx hb d_LW_place_0 rfl (lv_at hl 3 rfl) ?_
  refine lv_iconst (v := 0) hx hb d_LW_place_1 (by decide) ?_
  refine lv_aload_n hx hb d_LW_place_2 rfl (lv_at hl 0 rfl) ?_
  refine lv_iload_n hx hb d_LW_place_3 rfl (lv_at hl 1 rfl) ?_
  refine lv_iload_n hx hb d_LW_place_4 rfl (lv_at hl 2 rfl) ?_
  by_cases z0 : r.1 = 0
  · rw [if_pos z0] at h
    refine hl_ret (As := [.int a1, .int a2]) (rest := [.int 0, .ref aO]) ⟨hx, hb, hml.trans hl.1.symm, hown, hts⟩ (c_PM_place l hfl b0 G ad cI cZ hD.1 hD.2.1 σ a1 a2 r g_r) (cwV 2 hts (wg_V w_210 w_211 w_212 w_1 w_213) rfl rfl rfl (by decide +kernel) ⟨Nat.le_of_ble_eq_true rfl, Nat.le_of_ble_eq_true rfl⟩) hD hP hE hS z0 rfl (Nat.le_of_ble_eq_true rfl) d_LW_place_5 ⟨Nat.zero_le _, Nat.zero_le _⟩ (fun H locs hP hS => ?_)
    refine lv_i2l (v := Int32.toInt64 r.2.1) hx hb d_LW_place_8 rfl ?_
    refine va_last (D := G) hx hb hE.2.2.1 hP hD.d hS 32 0 rfl rfl (inB_in (by decide)) d_LW_place_9 (fun H locs hP hD9 hS => ?_)
    have hP : va_P G clX (wH ad cI cZ cJ aO r.2.2 (vp_updL y (Int32.toNatClampNeg 0) (Int32.toInt64 r.2.1))) H := hP
    refine lv_goto (tgt := 25) hx hb d_LW_place_10 (by decide) ?_
    refine lv_iconst (v := 0) hx hb d_LW_place_25 (by decide) ?_
    refine W.widen (k := 1) (n := 6) (by decide) (by decide) ?_
    exact W.iret hx hb hr (fun t ht _ => qh h ht hP hS) hS.2.2 d_LW_place_26
  · rw [if_neg z0] at h
    by_cases zc : r.1 = 1
    · rw [if_pos zc] at h
      refine hl_catch (k := r.1) (σ' := r.2.2) (As := [.int a1, .int a2]) (rest := [.int 0, .ref aO]) ⟨hx, hb, hml.trans hl.1.symm, hown, hts⟩ (c_PM_place l hfl b0 G ad cI cZ hD.1 hD.2.1 σ a1 a2 r g_r) (cwV 2 hts (wg_V w_210 w_211 w_212 w_1 w_213) rfl rfl rfl (by decide +kernel) ⟨Nat.le_of_ble_eq_true rfl, Nat.le_of_ble_eq_true rfl⟩) (fun a st o t q9 => ⟨q9.1, q9.2.1, q9.2.2.2 (by show r.1 ≠ 0; exact z0)⟩) hD hP hE hS z0 rfl (Nat.le_of_ble_eq_true rfl) d_LW_place_5 ⟨Nat.le_of_ble_eq_true rfl, Nat.le_of_ble_eq_true rfl⟩ (name := "java/util/NoSuchElementException") [] ⟨0, 10, 13, 13⟩ [⟨0, 10, 17, 15⟩, ⟨0, 10, 21, 17⟩] (htab.trans rfl) (fun _ h9 => nomatch h9) (by decide) (by decide) (hts _ w_207) (by rw [zc]; exact va_Nw.use rfl (hE.2.1.2.2.2.1 _ (List.mem_of_getElem? (i := 0) rfl))) (fun q9 H locs hP hS => ?_)
      refine lv_astore (lv' := [(4, .ref q9), (0, .ref (ad 0)), (1, .int a1), (2, .int a2), (3, .ref aO)]) hx hb d_LW_place_13 hl (by decide) rfl (fun ls hl => ?_)
      refine lv_iconst (v := 1) hx hb d_LW_place_15 (by decide) ?_
      refine W.widen (k := 1) (n := 6) (by decide) (by decide) ?_
      exact W.iret hx hb hr (fun t ht _ => qh h ht hP hS) hS.2.2 d_LW_place_16
    · rw [if_neg zc] at h
      by_cases zc : r.1 = 2
      · rw [if_pos zc] at h
        refine hl_catch (k := r.1) (σ' := r.2.2) (As := [.int a1, .int a2]) (rest := [.int 0, .ref aO]) ⟨hx, hb, hml.trans hl.1.symm, hown, hts⟩ (c_PM_place l hfl b0 G ad cI cZ hD.1 hD.2.1 σ a1 a2 r g_r) (cwV 2 hts (wg_V w_210 w_211 w_212 w_1 w_213) rfl rfl rfl (by decide +kernel) ⟨Nat.le_of_ble_eq_true rfl, Nat.le_of_ble_eq_true rfl⟩) (fun a st o t q9 => ⟨q9.1, q9.2.1, q9.2.2.2 (by show r.1 ≠ 0; exact z0)⟩) hD hP hE hS z0 rfl (Nat.le_of_ble_eq_true rfl) d_LW_place_5 ⟨Nat.le_of_ble_eq_true rfl, Nat.le_of_ble_eq_true rfl⟩ (name := "java/lang/IllegalArgumentException") [⟨0, 10, 13, 13⟩] ⟨0, 10, 17, 15⟩ [⟨0, 10, 21, 17⟩] (htab.trans rfl) (List.forall_mem_cons.mpr ⟨Or.inr ⟨by decide, "java/util/NoSuchElementException", hts _ w_207, by rw [zc]; exact hE.2.2.2 _ (List.mem_of_getElem? (i := 0) rfl)⟩, fun _ h9 => nomatch h9⟩) (by decide) (by decide) (hts _ w_208) (by rw [zc]; exact va_Nw.use rfl (hE.2.1.2.2.2.1 _ (List.mem_of_getElem? (i := 1) rfl))) (fun q9 H locs hP hS => ?_)
        refine lv_astore (lv' := [(4, .ref q9), (0, .ref (ad 0)), (1, .int a1), (2, .int a2), (3, .ref aO)]) hx hb d_LW_place_17 hl (by decide) rfl (fun ls hl => ?_)
        refine lv_iconst (v := 2) hx hb d_LW_place_19 (by decide) ?_
        refine W.widen (k := 1) (n := 6) (by decide) (by decide) ?_
        exact W.iret hx hb hr (fun t ht _ => qh h ht hP hS) hS.2.2 d_LW_place_20
      · rw [if_neg zc] at h
        by_cases zc : r.1 = 3
        · rw [if_pos zc] at h
          refine hl_catch (k := r.1) (σ' := r.2.2) (As := [.int a1, .int a2]) (rest := [.int 0, .ref aO]) ⟨hx, hb, hml.trans hl.1.symm, hown, hts⟩ (c_PM_place l hfl b0 G ad cI cZ hD.1 hD.2.1 σ a1 a2 r g_r) (cwV 2 hts (wg_V w_210 w_211 w_212 w_1 w_213) rfl rfl rfl (by decide +kernel) ⟨Nat.le_of_ble_eq_true rfl, Nat.le_of_ble_eq_true rfl⟩) (fun a st o t q9 => ⟨q9.1, q9.2.1, q9.2.2.2 (by show r.1 ≠ 0; exact z0)⟩) hD hP hE hS z0 rfl (Nat.le_of_ble_eq_true rfl) d_LW_place_5 ⟨Nat.le_of_ble_eq_true rfl, Nat.le_of_ble_eq_true rfl⟩ (name := "java/lang/IllegalStateException") [⟨0, 10, 13, 13⟩, ⟨0, 10, 17, 15⟩] ⟨0, 10, 21, 17⟩ [] (htab.trans rfl) (List.forall_mem_cons.mpr ⟨Or.inr ⟨by decide, "java/util/NoSuchElementException", hts _ w_207, by rw [zc]; exact hE.2.2.2 _ (List.mem_of_getElem? (i := 1) rfl)⟩, (List.forall_mem_cons.mpr ⟨Or.inr ⟨by decide, "java/lang/IllegalArgumentException", hts _ w_208, by rw [zc]; exact hE.2.2.2 _ (List.mem_of_getElem? (i := 2) rfl)⟩, fun _ h9 => nomatch h9⟩)⟩) (by decide) (by decide) (hts _ w_209) (by rw [zc]; exact va_Nw.use rfl (hE.2.1.2.2.2.1 _ (List.mem_of_getElem? (i := 2) rfl))) (fun q9 H locs hP hS => ?_)
          refine lv_astore (lv' := [(4, .ref q9), (0, .ref (ad 0)), (1, .int a1), (2, .int a2), (3, .ref aO)]) hx hb d_LW_place_21 hl (by decide) rfl (fun ls hl => ?_)
          refine lv_iconst (v := 3) hx hb d_LW_place_23 (by decide) ?_
          refine W.widen (k := 1) (n := 6) (by decide) (by decide) ?_
          exact W.iret hx hb hr (fun t ht _ => qh h ht hP hS) hS.2.2 d_LW_place_24
        · rw [if_neg zc] at h
          exact absurd h (by intro z9; cases z9)
abbrev wl_LW_object : List Cond := .codeWith ⟨"PlaceMovesLaw", "object", "(LPlaceMoves;IIII[J)I"⟩ method_4_code 7 (some FieldType.int) [(0, 14, 17, 15), (0, 14, 21, 17)] :: WG
set_option maxHeartbeats 4000000 in
set_option maxRecDepth 100000 in
theorem c_LW_object (l : Launch) (hfl : l.flags = pinnedFlags ++ [noTraceFlag]) (b0 : Nat) (G : va_G) (ad : Nat → Nat) (cI cZ cJ : ClassId) (aO : Nat) (hD : DH b0 ad aO) (σ : Sg) (y : Nat → Int64) (a1 : Int32) (a2 : Int32) (a3 : Int32) (a4 : Int32) (out : Int32 × (Nat → Int64) × Sg) (h : h_object σ y a1 a2 a3 a4 = some out) : Met l ⟨"PlaceMovesLaw", "object", "(LPlaceMoves;IIII[J)I"⟩ wl_LW_object ({ frames := 8, cells := 1, slots := 6, locals := 136 } : Room) (PcH b0 G ad cI cZ cJ aO σ y [.ref (ad 0), .int a1, .int a2, .int a3, .int a4, .ref aO]) (QH G ad cI cZ cJ aO out) 1 6 (AH ad aO) := by
  refine va_MetW (cc := method_4_code) (maxL := 7) (ret := (some FieldType.int)) (hh := [(0, 14, 17, 15), (0, 14, 21, 17)]) (by decide) rfl ?_
  intro p e s m args below meth c s₁ B hml hv
  obtain ⟨rfl, hP, hE⟩ := hv
  have hx := B.exec
  have hb := B.bytes
  have hr := B.returns
  have hts0 := atoms_spec (ws := wl_LW_object) B.pre
  have hts : ∀ w ∈ WG, w.before _ s = true := fun w hw => hts0 w (List.mem_cons_of_mem _ hw)
  have htab := tx_table B (hts0 _ List.mem_cons_self)
  have hown : s.vm.findClass "PlaceMovesLaw" = some m.cls := findClass_of_methodNamed B.named
  have hlocks := B.notSynchronized
  have hS : va_S (AH ad aO) s.heap s.heap [] := va_S.rf
  have hl := lv_entry ([.ref (ad 0), .int a1, .int a2, .int a3, .int a4, .ref aO]) (n := 7) (Nat.le_of_ble_eq_true rfl)
  rw [lg_entry_eq]
  generalize (lg_sl ([.ref (ad 0), .int a1, .int a2, .int a3, .int a4, .ref aO]) ++ List.replicate (7 - (lg_sl ([.ref (ad 0), .int a1, .int a2, .int a3, .int a4, .ref aO])).length) Slot.unset).toArray = ls at hl ⊢
  have hl : lv_has ls 7 [(0, .ref (ad 0)), (1, .int a1), (2, .int a2), (3, .int a3), (4, .int a4), (5, .ref aO)] := hl
  unfold h_object at h
  obtain ⟨r, g_r, h⟩ := ob_some h
  refine lv_aload hx hb d_LW_object_0 (lv_at hl 5 rfl) ?_
  refine lv_iconst (v := 0) hx hb d_LW_object_2 (by decide) ?_
  refine lv_aload_n hx hb d_LW_object_3 rfl (lv_at hl 0 rfl) ?_
  refine lv_iload_n hx hb d_LW_object_4 rfl (lv_at hl 1 rfl) ?_
  refine lv_iload_n hx hb d_LW_object_5 rfl (lv_at hl 2 rfl) ?_
  refine lv_iload_n hx hb d_LW_object_6 rfl (lv_at hl 3 rfl) ?_
  refine lv_iload hx hb d_LW_object_7 (lv_at hl 4 rfl) ?_
  by_cases z0 : r.1 = 0
  · rw [if_pos z0] at h
    refine hl_ret (As := [.int a1, .int a2, .int a3, .int a4]) (rest := [.int 0, .ref aO]) ⟨hx, hb, hml.trans hl.1.symm, hown, hts⟩ (c_PM_object l hfl b0 G ad cI cZ hD.1 hD.2.1 σ a1 a2 a3 a4 r g_r) (cwV 4 hts (wg_V w_339 w_340 w_341 w_1 w_342) rfl rfl rfl (by decide +kernel) ⟨Nat.le_of_ble_eq_true rfl, Nat.le_of_ble_eq_true rfl⟩) hD hP hE hS z0 rfl (Nat.le_of_ble_eq_true rfl) d_LW_object_9 ⟨Nat.zero_le _, Nat.zero_le _⟩ (fun H locs hP hS => ?_)
    refine lv_i2l (v := Int32.toInt64 r.2.1) hx hb d_LW_object_12 rfl ?_
    refine va_last (D := G) hx hb hE.2.2.1 hP hD.d hS 32 0 rfl rfl (inB_in (by decide)) d_LW_object_13 (fun H locs hP hD9 hS => ?_)
    have hP : va_P G clX (wH ad cI cZ cJ aO r.2.2 (vp_updL y (Int32.toNatClampNeg 0) (Int32.toInt64 r.2.1))) H := hP
    refine lv_goto (tgt := 25) hx hb d_LW_object_14 (by decide) ?_
    refine lv_iconst (v := 0) hx hb d_LW_object_25 (by decide) ?_
    refine W.widen (k := 1) (n := 6) (by decide) (by decide) ?_
    exact W.iret hx hb hr (fun t ht _ => qh h ht hP hS) hS.2.2 d_LW_object_26
  · rw [if_neg z0] at h
    by_cases zc : r.1 = 2
    · rw [if_pos zc] at h
      refine hl_catch (k := r.1) (σ' := r.2.2) (As := [.int a1, .int a2, .int a3, .int a4]) (rest := [.int 0, .ref aO]) ⟨hx, hb, hml.trans hl.1.symm, hown, hts⟩ (c_PM_object l hfl b0 G ad cI cZ hD.1 hD.2.1 σ a1 a2 a3 a4 r g_r) (cwV 4 hts (wg_V w_339 w_340 w_341 w_1 w_342) rfl rfl rfl (by decide +kernel) ⟨Nat.le_of_ble_eq_true rfl, Nat.le_of_ble_eq_true rfl⟩) (fun a st o t q9 => ⟨q9.1, q9.2.1, q9.2.2.2 (by show r.1 ≠ 0; exact z0)⟩) hD hP hE hS z0 rfl (Nat.le_of_ble_eq_true rfl) d_LW_object_9 ⟨Nat.le_of_ble_eq_true rfl, Nat.le_of_ble_eq_true rfl⟩ (name := "java/lang/IllegalArgumentException") [] ⟨0, 14, 17, 15⟩ [⟨0, 14, 21, 17⟩] (htab.trans rfl) (fun _ h9 => nomatch h9) (by decide) (by decide) (hts _ w_208) (by rw [zc]; exact va_Nw.use rfl (hE.2.1.2.2.2.1 _ (List.mem_of_getElem? (i := 1) rfl))) (fun q9 H locs hP hS => ?_)
      refine lv_astore (lv' := [(6, .ref q9), (0, .ref (ad 0)), (1, .int a1), (2, .int a2), (3, .int a3), (4, .int a4), (5, .ref aO)]) hx hb d_LW_object_17 hl (by decide) rfl (fun ls hl => ?_)
      refine lv_iconst (v := 1) hx hb d_LW_object_19 (by decide) ?_
      refine W.widen (k := 1) (n := 6) (by decide) (by decide) ?_
      exact W.iret hx hb hr (fun t ht _ => qh h ht hP hS) hS.2.2 d_LW_object_20
    · rw [if_neg zc] at h
      by_cases zc : r.1 = 3
      · rw [if_pos zc] at h
        refine hl_catch (k := r.1) (σ' := r.2.2) (As := [.int a1, .int a2, .int a3, .int a4]) (rest := [.int 0, .ref aO]) ⟨hx, hb, hml.trans hl.1.symm, hown, hts⟩ (c_PM_object l hfl b0 G ad cI cZ hD.1 hD.2.1 σ a1 a2 a3 a4 r g_r) (cwV 4 hts (wg_V w_339 w_340 w_341 w_1 w_342) rfl rfl rfl (by decide +kernel) ⟨Nat.le_of_ble_eq_true rfl, Nat.le_of_ble_eq_true rfl⟩) (fun a st o t q9 => ⟨q9.1, q9.2.1, q9.2.2.2 (by show r.1 ≠ 0; exact z0)⟩) hD hP hE hS z0 rfl (Nat.le_of_ble_eq_true rfl) d_LW_object_9 ⟨Nat.le_of_ble_eq_true rfl, Nat.le_of_ble_eq_true rfl⟩ (name := "java/lang/IllegalStateException") [⟨0, 14, 17, 15⟩] ⟨0, 14, 21, 17⟩ [] (htab.trans rfl) (List.forall_mem_cons.mpr ⟨Or.inr ⟨by decide, "java/lang/IllegalArgumentException", hts _ w_208, by rw [zc]; exact hE.2.2.2 _ (List.mem_of_getElem? (i := 2) rfl)⟩, fun _ h9 => nomatch h9⟩) (by decide) (by decide) (hts _ w_209) (by rw [zc]; exact va_Nw.use rfl (hE.2.1.2.2.2.1 _ (List.mem_of_getElem? (i := 2) rfl))) (fun q9 H locs hP hS => ?_)
        refine lv_astore (lv' := [(6, .ref q9), (0, .ref (ad 0)), (1, .int a1), (2, .int a2), (3, .int a3), (4, .int a4), (5, .ref aO)]) hx hb d_LW_object_21 hl (by decide) rfl (fun ls hl => ?_)
        refine lv_iconst (v := 2) hx hb d_LW_object_23 (by decide) ?_
        refine W.widen (k := 1) (n := 6) (by decide) (by decide) ?_
        exact W.iret hx hb hr (fun t ht _ => qh h ht hP hS) hS.2.2 d_LW_object_24
      · rw [if_neg zc] at h
        exact absurd h (by intro z9; cases z9)
abbrev wl_LW_keys : List Cond := .codeWith ⟨"PlaceMovesLaw", "keys", "(LPlaceMoves;II[J)I"⟩ method_5_code 5 (some FieldType.int) [(0, 10, 13, 13), (0, 10, 17, 15)] :: WG
set_option maxHeartbeats 4000000 in
set_option maxRecDepth 100000 in
theorem c_LW_keys (l : Launch) (hfl : l.flags = pinnedFlags ++ [noTraceFlag]) (b0 : Nat) (G : va_G) (ad : Nat → Nat) (cI cZ cJ : ClassId) (aO : Nat) (hD : DH b0 ad aO) (σ : Sg) (y : Nat → Int64) (a1 : Int32) (a2 : Int32) (out : Int32 × (Nat → Int64) × Sg) (h : h_keys σ y a1 a2 = some out) : Met l ⟨"PlaceMovesLaw", "keys", "(LPlaceMoves;II[J)I"⟩ wl_LW_keys ({ frames := 9, cells := 1, slots := 6, locals := 155 } : Room) (PcH b0 G ad cI cZ cJ aO σ y [.ref (ad 0), .int a1, .int a2, .ref aO]) (QH G ad cI cZ cJ aO out) 1 6 (AH ad aO) := by
  refine va_MetW (cc := method_5_code) (maxL := 5) (ret := (some FieldType.int)) (hh := [(0, 10, 13, 13), (0, 10, 17, 15)]) (by decide) rfl ?_
  intro p e s m args below meth c s₁ B hml hv
  obtain ⟨rfl, hP, hE⟩ := hv
  have hx := B.exec
  have hb := B.bytes
  have hr := B.returns
  have hts0 := atoms_spec (ws := wl_LW_keys) B.pre
  have hts : ∀ w ∈ WG, w.before _ s = true := fun w hw => hts0 w (List.mem_cons_of_mem _ hw)
  have htab := tx_table B (hts0 _ List.mem_cons_self)
  have hown : s.vm.findClass "PlaceMovesLaw" = some m.cls := findClass_of_methodNamed B.named
  have hlocks := B.notSynchronized
  have hS : va_S (AH ad aO) s.heap s.heap [] := va_S.rf
  have hl := lv_entry ([.ref (ad 0), .int a1, .int a2, .ref aO]) (n := 5) (Nat.le_of_ble_eq_true rfl)
  rw [lg_entry_eq]
  generalize (lg_sl ([.ref (ad 0), .int a1, .int a2, .ref aO]) ++ List.replicate (5 - (lg_sl ([.ref (ad 0), .int a1, .int a2, .ref aO])).length) Slot.unset).toArray = ls at hl ⊢
  have hl : lv_has ls 5 [(0, .ref (ad 0)), (1, .int a1), (2, .int a2), (3, .ref aO)] := hl
  unfold h_keys at h
  obtain ⟨r, g_r, h⟩ := ob_some h
  refine lv_aload_n hx hb d_LW_keys_0 rfl (lv_at hl 3 rfl) ?_
  refine lv_iconst (v := 0) hx hb d_LW_keys_1 (by decide) ?_
  refine lv_aload_n hx hb d_LW_keys_2 rfl (lv_at hl 0 rfl) ?_
  refine lv_iload_n hx hb d_LW_keys_3 rfl (lv_at hl 1 rfl) ?_
  refine lv_iload_n hx hb d_LW_keys_4 rfl (lv_at hl 2 rfl) ?_
  by_cases z0 : r.1 = 0
  · rw [if_pos z0] at h
    refine hl_ret (As := [.int a1, .int a2]) (rest := [.int 0, .ref aO]) ⟨hx, hb, hml.trans hl.1.symm, hown, hts⟩ (c_PM_keys l hfl b0 G ad cI cZ hD.1 hD.2.1 σ a1 a2 r g_r) (cwV 2 hts (wg_V w_357 w_358 w_359 w_1 w_360) rfl rfl rfl (by decide +kernel) ⟨Nat.le_of_ble_eq_true rfl, Nat.le_of_ble_eq_true rfl⟩) hD hP hE hS z0 rfl (Nat.le_of_ble_eq_true rfl) d_LW_keys_5 ⟨Nat.zero_le _, Nat.zero_le _⟩ (fun H locs hP hS => ?_)
    refine lv_i2l (v := Int32.toInt64 r.2.1) hx hb d_LW_keys_8 rfl ?_
    refine va_last (D := G) hx hb hE.2.2.1 hP hD.d hS 32 0 rfl rfl (inB_in (by decide)) d_LW_keys_9 (fun H locs hP hD9 hS => ?_)
    have hP : va_P G clX (wH ad cI cZ cJ aO r.2.2 (vp_updL y (Int32.toNatClampNeg 0) (Int32.toInt64 r.2.1))) H := hP
    refine lv_goto (tgt := 21) hx hb d_LW_keys_10 (by decide) ?_
    refine lv_iconst (v := 0) hx hb d_LW_keys_21 (by decide) ?_
    refine W.widen (k := 1) (n := 6) (by decide) (by decide) ?_
    exact W.iret hx hb hr (fun t ht _ => qh h ht hP hS) hS.2.2 d_LW_keys_22
  · rw [if_neg z0] at h
    by_cases zc : r.1 = 1
    · rw [if_pos zc] at h
      refine hl_catch (k := r.1) (σ' := r.2.2) (As := [.int a1, .int a2]) (rest := [.int 0, .ref aO]) ⟨hx, hb, hml.trans hl.1.symm, hown, hts⟩ (c_PM_keys l hfl b0 G ad cI cZ hD.1 hD.2.1 σ a1 a2 r g_r) (cwV 2 hts (wg_V w_357 w_358 w_359 w_1 w_360) rfl rfl rfl (by decide +kernel) ⟨Nat.le_of_ble_eq_true rfl, Nat.le_of_ble_eq_true rfl⟩) (fun a st o t q9 => ⟨q9.1, q9.2.1, q9.2.2.2 (by show r.1 ≠ 0; exact z0)⟩) hD hP hE hS z0 rfl (Nat.le_of_ble_eq_true rfl) d_LW_keys_5 ⟨Nat.le_of_ble_eq_true rfl, Nat.le_of_ble_eq_true rfl⟩ (name := "java/util/NoSuchElementException") [] ⟨0, 10, 13, 13⟩ [⟨0, 10, 17, 15⟩] (htab.trans rfl) (fun _ h9 => nomatch h9) (by decide) (by decide) (hts _ w_207) (by rw [zc]; exact va_Nw.use rfl (hE.2.1.2.2.2.1 _ (List.mem_of_getElem? (i := 0) rfl))) (fun q9 H locs hP hS => ?_)
      refine lv_astore (lv' := [(4, .ref q9), (0, .ref (ad 0)), (1, .int a1), (2, .int a2), (3, .ref aO)]) hx hb d_LW_keys_13 hl (by decide) rfl (fun ls hl => ?_)
      refine lv_iconst (v := 1) hx hb d_LW_keys_15 (by decide) ?_
      refine W.widen (k := 1) (n := 6) (by decide) (by decide) ?_
      exact W.iret hx hb hr (fun t ht _ => qh h ht hP hS) hS.2.2 d_LW_keys_16
    · rw [if_neg zc] at h
      by_cases zc : r.1 = 2
      · rw [if_pos zc] at h
        refine hl_catch (k := r.1) (σ' := r.2.2) (As := [.int a1, .int a2]) (rest := [.int 0, .ref aO]) ⟨hx, hb, hml.trans hl.1.symm, hown, hts⟩ (c_PM_keys l hfl b0 G ad cI cZ hD.1 hD.2.1 σ a1 a2 r g_r) (cwV 2 hts (wg_V w_357 w_358 w_359 w_1 w_360) rfl rfl rfl (by decide +kernel) ⟨Nat.le_of_ble_eq_true rfl, Nat.le_of_ble_eq_true rfl⟩) (fun a st o t q9 => ⟨q9.1, q9.2.1, q9.2.2.2 (by show r.1 ≠ 0; exact z0)⟩) hD hP hE hS z0 rfl (Nat.le_of_ble_eq_true rfl) d_LW_keys_5 ⟨Nat.le_of_ble_eq_true rfl, Nat.le_of_ble_eq_true rfl⟩ (name := "java/lang/IllegalArgumentException") [⟨0, 10, 13, 13⟩] ⟨0, 10, 17, 15⟩ [] (htab.trans rfl) (List.forall_mem_cons.mpr ⟨Or.inr ⟨by decide, "java/util/NoSuchElementException", hts _ w_207, by rw [zc]; exact hE.2.2.2 _ (List.mem_of_getElem? (i := 0) rfl)⟩, fun _ h9 => nomatch h9⟩) (by decide) (by decide) (hts _ w_208) (by rw [zc]; exact va_Nw.use rfl (hE.2.1.2.2.2.1 _ (List.mem_of_getElem? (i := 1) rfl))) (fun q9 H locs hP hS => ?_)
        refine lv_astore (lv' := [(4, .ref q9), (0, .ref (ad 0)), (1, .int a1), (2, .int a2), (3, .ref aO)]) hx hb d_LW_keys_17 hl (by decide) rfl (fun ls hl => ?_)
        refine lv_iconst (v := 2) hx hb d_LW_keys_19 (by decide) ?_
        refine W.widen (k := 1) (n := 6) (by decide) (by decide) ?_
        exact W.iret hx hb hr (fun t ht _ => qh h ht hP hS) hS.2.2 d_LW_keys_20
      · rw [if_neg zc] at h
        exact absurd h (by intro z9; cases z9)
abbrev wl_LW_key : List Cond := .codeWith ⟨"PlaceMovesLaw", "key", "(LPlaceMoves;IZ[J)I"⟩ method_6_code 5 (some FieldType.int) [(0, 17, 20, 13)] :: WG
set_option maxHeartbeats 4000000 in
set_option maxRecDepth 100000 in
theorem c_LW_key (l : Launch) (hfl : l.flags = pinnedFlags ++ [noTraceFlag]) (b0 : Nat) (G : va_G) (ad : Nat → Nat) (cI cZ cJ : ClassId) (aO : Nat) (hD : DH b0 ad aO) (σ : Sg) (y : Nat → Int64) (a1 : Int32) (a2 : Int32) (out : Int32 × (Nat → Int64) × Sg) (h : h_key σ y a1 a2 = some out) : Met l ⟨"PlaceMovesLaw", "key", "(LPlaceMoves;IZ[J)I"⟩ wl_LW_key ({ frames := 9, cells := 1, slots := 6, locals := 155 } : Room) (PcH b0 G ad cI cZ cJ aO σ y [.ref (ad 0), .int a1, .int a2, .ref aO]) (QH G ad cI cZ cJ aO out) 1 6 (AH ad aO) := by
  refine va_MetW (cc := method_6_code) (maxL := 5) (ret := (some FieldType.int)) (hh := [(0, 17, 20, 13)]) (by decide) rfl ?_
  intro p e s m args below meth c s₁ B hml hv
  obtain ⟨rfl, hP, hE⟩ := hv
  have hx := B.exec
  have hb := B.bytes
  have hr := B.returns
  have hts0 := atoms_spec (ws := wl_LW_key) B.pre
  have hts : ∀ w ∈ WG, w.before _ s = true := fun w hw => hts0 w (List.mem_cons_of_mem _ hw)
  have htab := tx_table B (hts0 _ List.mem_cons_self)
  have hown : s.vm.findClass "PlaceMovesLaw" = some m.cls := findClass_of_methodNamed B.named
  have hlocks := B.notSynchronized
  have hS : va_S (AH ad aO) s.heap s.heap [] := va_S.rf
  have hl := lv_entry ([.ref (ad 0), .int a1, .int a2, .ref aO]) (n := 5) (Nat.le_of_ble_eq_true rfl)
  rw [lg_entry_eq]
  generalize (lg_sl ([.ref (ad 0), .int a1, .int a2, .ref aO]) ++ List.replicate (5 - (lg_sl ([.ref (ad 0), .int a1, .int a2, .ref aO])).length) Slot.unset).toArray = ls at hl ⊢
  have hl : lv_has ls 5 [(0, .ref (ad 0)), (1, .int a1), (2, .int a2), (3, .ref aO)] := hl
  unfold h_key at h
  obtain ⟨r, g_r, h⟩ := ob_some h
  refine lv_aload_n hx hb d_LW_key_0 rfl (lv_at hl 3 rfl) ?_
  refine lv_iconst (v := 0) hx hb d_LW_key_1 (by decide) ?_
  refine lv_aload_n hx hb d_LW_key_2 rfl (lv_at hl 0 rfl) ?_
  refine lv_iload_n hx hb d_LW_key_3 rfl (lv_at hl 1 rfl) ?_
  refine lv_iload_n hx hb d_LW_key_4 rfl (lv_at hl 2 rfl) ?_
  by_cases z0 : r.1 = 0
  · rw [if_pos z0] at h
    refine hl_ret (As := [.int a1, .int a2]) (rest := [.int 0, .ref aO]) ⟨hx, hb, hml.trans hl.1.symm, hown, hts⟩ (c_PM_key l hfl b0 G ad cI cZ hD.1 hD.2.1 σ a1 a2 r g_r) (cwV 2 hts (wg_V w_368 w_369 w_370 w_1 w_371) rfl rfl rfl (by decide +kernel) ⟨Nat.le_of_ble_eq_true rfl, Nat.le_of_ble_eq_true rfl⟩) hD hP hE hS z0 rfl (Nat.le_of_ble_eq_true rfl) d_LW_key_5 ⟨Nat.zero_le _, Nat.zero_le _⟩ (fun H locs hP hS => ?_)
    refine lv_if_eq (tgt := 15) hx hb d_LW_key_8 (by decide) (fun c1 => ?_) (fun c1 => ?_)
    · rw [if_pos c1] at h
      refine lv_lconst (v := 0) hx hb d_LW_key_15 (by decide) ?_
      refine va_last (D := G) hx hb hE.2.2.1 hP hD.d hS 32 0 rfl rfl (inB_in (by decide)) d_LW_key_16 (fun H locs hP hD9 hS => ?_)
      have hP : va_P G clX (wH ad cI cZ cJ aO r.2.2 (vp_updL y (Int32.toNatClampNeg 0) 0)) H := hP
      refine lv_goto (tgt := 24) hx hb d_LW_key_17 (by decide) ?_
      refine lv_iconst (v := 0) hx hb d_LW_key_24 (by decide) ?_
      refine W.widen (k := 1) (n := 6) (by decide) (by decide) ?_
      exact W.iret hx hb hr (fun t ht _ => qh h ht hP hS) hS.2.2 d_LW_key_25
    · rw [if_neg c1] at h
      refine lv_lconst (v := 1) hx hb d_LW_key_11 (by decide) ?_
      refine lv_goto (tgt := 16) hx hb d_LW_key_12 (by decide) ?_
      refine va_last (D := G) hx hb hE.2.2.1 hP hD.d hS 32 0 rfl rfl (inB_in (by decide)) d_LW_key_16 (fun H locs hP hD9 hS => ?_)
      have hP : va_P G clX (wH ad cI cZ cJ aO r.2.2 (vp_updL y (Int32.toNatClampNeg 0) 1)) H := hP
      refine lv_goto (tgt := 24) hx hb d_LW_key_17 (by decide) ?_
      refine lv_iconst (v := 0) hx hb d_LW_key_24 (by decide) ?_
      refine W.widen (k := 1) (n := 6) (by decide) (by decide) ?_
      exact W.iret hx hb hr (fun t ht _ => qh h ht hP hS) hS.2.2 d_LW_key_25
  · rw [if_neg z0] at h
    by_cases zc : r.1 = 1
    · rw [if_pos zc] at h
      refine hl_catch (k := r.1) (σ' := r.2.2) (As := [.int a1, .int a2]) (rest := [.int 0, .ref aO]) ⟨hx, hb, hml.trans hl.1.symm, hown, hts⟩ (c_PM_key l hfl b0 G ad cI cZ hD.1 hD.2.1 σ a1 a2 r g_r) (cwV 2 hts (wg_V w_368 w_369 w_370 w_1 w_371) rfl rfl rfl (by decide +kernel) ⟨Nat.le_of_ble_eq_true rfl, Nat.le_of_ble_eq_true rfl⟩) (fun a st o t q9 => ⟨q9.1, q9.2.1, q9.2.2.2 (by show r.1 ≠ 0; exact z0)⟩) hD hP hE hS z0 rfl (Nat.le_of_ble_eq_true rfl) d_LW_key_5 ⟨Nat.le_of_ble_eq_true rfl, Nat.le_of_ble_eq_true rfl⟩ (name := "java/util/NoSuchElementException") [] ⟨0, 17, 20, 13⟩ [] (htab.trans rfl) (fun _ h9 => nomatch h9) (by decide) (by decide) (hts _ w_207) (by rw [zc]; exact va_Nw.use rfl (hE.2.1.2.2.2.1 _ (List.mem_of_getElem? (i := 0) rfl))) (fun q9 H locs hP hS => ?_)
      refine lv_astore (lv' := [(4, .ref q9), (0, .ref (ad 0)), (1, .int a1), (2, .int a2), (3, .ref aO)]) hx hb d_LW_key_20 hl (by decide) rfl (fun ls hl => ?_)
      refine lv_iconst (v := 1) hx hb d_LW_key_22 (by decide) ?_
      refine W.widen (k := 1) (n := 6) (by decide) (by decide) ?_
      exact W.iret hx hb hr (fun t ht _ => qh h ht hP hS) hS.2.2 d_LW_key_23
    · rw [if_neg zc] at h
      exact absurd h (by intro z9; cases z9)
abbrev wl_LW_box : List Cond := .codeWith ⟨"PlaceMovesLaw", "box", "(LPlaceMoves;I[J)I"⟩ method_7_code 4 (some FieldType.int) [(0, 16, 19, 13)] :: WG
set_option maxHeartbeats 4000000 in
set_option maxRecDepth 100000 in
theorem c_LW_box (l : Launch) (hfl : l.flags = pinnedFlags ++ [noTraceFlag]) (b0 : Nat) (G : va_G) (ad : Nat → Nat) (cI cZ cJ : ClassId) (aO : Nat) (hD : DH b0 ad aO) (σ : Sg) (y : Nat → Int64) (a1 : Int32) (out : Int32 × (Nat → Int64) × Sg) (h : h_box σ y a1 = some out) : Met l ⟨"PlaceMovesLaw", "box", "(LPlaceMoves;I[J)I"⟩ wl_LW_box ({ frames := 9, cells := 1, slots := 6, locals := 154 } : Room) (PcH b0 G ad cI cZ cJ aO σ y [.ref (ad 0), .int a1, .ref aO]) (QH G ad cI cZ cJ aO out) 1 6 (AH ad aO) := by
  refine va_MetW (cc := method_7_code) (maxL := 4) (ret := (some FieldType.int)) (hh := [(0, 16, 19, 13)]) (by decide) rfl ?_
  intro p e s m args below meth c s₁ B hml hv
  obtain ⟨rfl, hP, hE⟩ := hv
  have hx := B.exec
  have hb := B.bytes
  have hr := B.returns
  have hts0 := atoms_spec (ws := wl_LW_box) B.pre
  have hts : ∀ w ∈ WG, w.before _ s = true := fun w hw => hts0 w (List.mem_cons_of_mem _ hw)
  have htab := tx_table B (hts0 _ List.mem_cons_self)
  have hown : s.vm.findClass "PlaceMovesLaw" = some m.cls := findClass_of_methodNamed B.named
  have hlocks := B.notSynchronized
  have hS : va_S (AH ad aO) s.heap s.heap [] := va_S.rf
  have hl := lv_entry ([.ref (ad 0), .int a1, .ref aO]) (n := 4) (Nat.le_of_ble_eq_true rfl)
  rw [lg_entry_eq]
  generalize (lg_sl ([.ref (ad 0), .int a1, .ref aO]) ++ List.replicate (4 - (lg_sl ([.ref (ad 0), .int a1, .ref aO])).length) Slot.unset).toArray = ls at hl ⊢
  have hl : lv_has ls 4 [(0, .ref (ad 0)), (1, .int a1), (2, .ref aO)] := hl
  unfold h_box at h
  obtain ⟨r, g_r, h⟩ := ob_some h
  refine lv_aload_n hx hb d_LW_box_0 rfl (lv_at hl 2 rfl) ?_
  refine lv_iconst (v := 0) hx hb d_LW_box_1 (by decide) ?_
  refine lv_aload_n hx hb d_LW_box_2 rfl (lv_at hl 0 rfl) ?_
  refine lv_iload_n hx hb d_LW_box_3 rfl (lv_at hl 1 rfl) ?_
  by_cases z0 : r.1 = 0
  · rw [if_pos z0] at h
    refine hl_ret (As := [.int a1]) (rest := [.int 0, .ref aO]) ⟨hx, hb, hml.trans hl.1.symm, hown, hts⟩ (c_PM_box l hfl b0 G ad cI cZ hD.1 hD.2.1 σ a1 r g_r) (cwV 1 hts (wg_V w_379 w_380 w_381 w_1 w_382) rfl rfl rfl (by decide +kernel) ⟨Nat.le_of_ble_eq_true rfl, Nat.le_of_ble_eq_true rfl⟩) hD hP hE hS z0 rfl (Nat.le_of_ble_eq_true rfl) d_LW_box_4 ⟨Nat.zero_le _, Nat.zero_le _⟩ (fun H locs hP hS => ?_)
    refine lv_if_eq (tgt := 14) hx hb d_LW_box_7 (by decide) (fun c1 => ?_) (fun c1 => ?_)
    · rw [if_pos c1] at h
      refine lv_lconst (v := 0) hx hb d_LW_box_14 (by decide) ?_
      refine va_last (D := G) hx hb hE.2.2.1 hP hD.d hS 32 0 rfl rfl (inB_in (by decide)) d_LW_box_15 (fun H locs hP hD9 hS => ?_)
      have hP : va_P G clX (wH ad cI cZ cJ aO r.2.2 (vp_updL y (Int32.toNatClampNeg 0) 0)) H := hP
      refine lv_goto (tgt := 22) hx hb d_LW_box_16 (by decide) ?_
      refine lv_iconst (v := 0) hx hb d_LW_box_22 (by decide) ?_
      refine W.widen (k := 1) (n := 6) (by decide) (by decide) ?_
      exact W.iret hx hb hr (fun t ht _ => qh h ht hP hS) hS.2.2 d_LW_box_23
    · rw [if_neg c1] at h
      refine lv_lconst (v := 1) hx hb d_LW_box_10 (by decide) ?_
      refine lv_goto (tgt := 15) hx hb d_LW_box_11 (by decide) ?_
      refine va_last (D := G) hx hb hE.2.2.1 hP hD.d hS 32 0 rfl rfl (inB_in (by decide)) d_LW_box_15 (fun H locs hP hD9 hS => ?_)
      have hP : va_P G clX (wH ad cI cZ cJ aO r.2.2 (vp_updL y (Int32.toNatClampNeg 0) 1)) H := hP
      refine lv_goto (tgt := 22) hx hb d_LW_box_16 (by decide) ?_
      refine lv_iconst (v := 0) hx hb d_LW_box_22 (by decide) ?_
      refine W.widen (k := 1) (n := 6) (by decide) (by decide) ?_
      exact W.iret hx hb hr (fun t ht _ => qh h ht hP hS) hS.2.2 d_LW_box_23
  · rw [if_neg z0] at h
    by_cases zc : r.1 = 1
    · rw [if_pos zc] at h
      refine hl_catch (k := r.1) (σ' := r.2.2) (As := [.int a1]) (rest := [.int 0, .ref aO]) ⟨hx, hb, hml.trans hl.1.symm, hown, hts⟩ (c_PM_box l hfl b0 G ad cI cZ hD.1 hD.2.1 σ a1 r g_r) (cwV 1 hts (wg_V w_379 w_380 w_381 w_1 w_382) rfl rfl rfl (by decide +kernel) ⟨Nat.le_of_ble_eq_true rfl, Nat.le_of_ble_eq_true rfl⟩) (fun a st o t q9 => ⟨q9.1, q9.2.1, q9.2.2.2 (by show r.1 ≠ 0; exact z0)⟩) hD hP hE hS z0 rfl (Nat.le_of_ble_eq_true rfl) d_LW_box_4 ⟨Nat.le_of_ble_eq_true rfl, Nat.le_of_ble_eq_true rfl⟩ (name := "java/util/NoSuchElementException") [] ⟨0, 16, 19, 13⟩ [] (htab.trans rfl) (fun _ h9 => nomatch h9) (by decide) (by decide) (hts _ w_207) (by rw [zc]; exact va_Nw.use rfl (hE.2.1.2.2.2.1 _ (List.mem_of_getElem? (i := 0) rfl))) (fun q9 H locs hP hS => ?_)
      refine lv_astore_n (lv' := [(3, .ref q9), (0, .ref (ad 0)), (1, .int a1), (2, .ref aO)]) hx hb d_LW_box_19 rfl hl (by decide) rfl (fun ls hl => ?_)
      refine lv_iconst (v := 1) hx hb d_LW_box_20 (by decide) ?_
      refine W.widen (k := 1) (n := 6) (by decide) (by decide) ?_
      exact W.iret hx hb hr (fun t ht _ => qh h ht hP hS) hS.2.2 d_LW_box_21
    · rw [if_neg zc] at h
      exact absurd h (by intro z9; cases z9)
abbrev wl_LW_move : List Cond := .codeWith ⟨"PlaceMovesLaw", "move", "(LPlaceMoves;IIIII[J)I"⟩ method_8_code 8 (some FieldType.int) [(0, 16, 19, 13), (0, 16, 23, 15), (0, 16, 27, 17)] :: WG
set_option maxHeartbeats 4000000 in
set_option maxRecDepth 100000 in
theorem c_LW_move (l : Launch) (hfl : l.flags = pinnedFlags ++ [noTraceFlag]) (b0 : Nat) (G : va_G) (ad : Nat → Nat) (cI cZ cJ : ClassId) (aO : Nat) (hD : DH b0 ad aO) (σ : Sg) (y : Nat → Int64) (a1 : Int32) (a2 : Int32) (a3 : Int32) (a4 : Int32) (a5 : Int32) (out : Int32 × (Nat → Int64) × Sg) (h : h_move σ y a1 a2 a3 a4 a5 = some out) : Met l ⟨"PlaceMovesLaw", "move", "(LPlaceMoves;IIIII[J)I"⟩ wl_LW_move ({ frames := 9, cells := 1, slots := 6, locals := 190 } : Room) (PcH b0 G ad cI cZ cJ aO σ y [.ref (ad 0), .int a1, .int a2, .int a3, .int a4, .int a5, .ref aO]) (QH G ad cI cZ cJ aO out) 1 6 (AH ad aO) := by
  refine va_MetW (cc := method_8_code) (maxL := 8) (ret := (some FieldType.int)) (hh := [(0, 16, 19, 13), (0, 16, 23, 15), (0, 16, 27, 17)]) (by decide) rfl ?_
  intro p e s m args below meth c s₁ B hml hv
  obtain ⟨rfl, hP, hE⟩ := hv
  have hx := B.exec
  have hb := B.bytes
  have hr := B.returns
  have hts0 := atoms_spec (ws := wl_LW_move) B.pre
  have hts : ∀ w ∈ WG, w.before _ s = true := fun w hw => hts0 w (List.mem_cons_of_mem _ hw)
  have htab := tx_table B (hts0 _ List.mem_cons_self)
  have hown : s.vm.findClass "PlaceMovesLaw" = some m.cls := findClass_of_methodNamed B.named
  have hlocks := B.notSynchronized
  have hS : va_S (AH ad aO) s.heap s.heap [] := va_S.rf
  have hl := lv_entry ([.ref (ad 0), .int a1, .int a2, .int a3, .int a4, .int a5, .ref aO]) (n := 8) (Nat.le_of_ble_eq_true rfl)
  rw [lg_entry_eq]
  generalize (lg_sl ([.ref (ad 0), .int a1, .int a2, .int a3, .int a4, .int a5, .ref aO]) ++ List.replicate (8 - (lg_sl ([.ref (ad 0), .int a1, .int a2, .int a3, .int a4, .int a5, .ref aO])).length) Slot.unset).toArray = ls at hl ⊢
  have hl : lv_has ls 8 [(0, .ref (ad 0)), (1, .int a1), (2, .int a2), (3, .int a3), (4, .int a4), (5, .int a5), (6, .ref aO)] := hl
  unfold h_move at h
  obtain ⟨r, g_r, h⟩ := ob_some h
  refine lv_aload hx hb d_LW_move_0 (lv_at hl 6 rfl) ?_
  refine lv_iconst (v := 0) hx hb d_LW_move_2 (by decide) ?_
  refine lv_aload_n hx hb d_LW_move_3 rfl (lv_at hl 0 rfl) ?_
  refine lv_iload_n hx hb d_LW_move_4 rfl (lv_at hl 1 rfl) ?_
  refine lv_iload_n hx hb d_LW_move_5 rfl (lv_at hl 2 rfl) ?_
  refine lv_iload_n hx hb d_LW_move_6 rfl (lv_at hl 3 rfl) ?_
  refine lv_iload hx hb d_LW_move_7 (lv_at hl 4 rfl) ?_
  refine lv_iload hx hb d_LW_move_9 (lv_at hl 5 rfl) ?_
  by_cases z0 : r.1 = 0
  · rw [if_pos z0] at h
    refine hl_ret (As := [.int a1, .int a2, .int a3, .int a4, .int a5]) (rest := [.int 0, .ref aO]) ⟨hx, hb, hml.trans hl.1.symm, hown, hts⟩ (c_PM_move l hfl b0 G ad cI cZ hD.1 hD.2.1 σ a1 a2 a3 a4 a5 r g_r) (cwV 5 hts (wg_V w_386 w_387 w_388 w_1 w_389) rfl rfl rfl (by decide +kernel) ⟨Nat.le_of_ble_eq_true rfl, Nat.le_of_ble_eq_true rfl⟩) hD hP hE hS z0 rfl (Nat.le_of_ble_eq_true rfl) d_LW_move_11 ⟨Nat.zero_le _, Nat.zero_le _⟩ (fun H locs hP hS => ?_)
    refine lv_i2l (v := Int32.toInt64 r.2.1) hx hb d_LW_move_14 rfl ?_
    refine va_last (D := G) hx hb hE.2.2.1 hP hD.d hS 32 0 rfl rfl (inB_in (by decide)) d_LW_move_15 (fun H locs hP hD9 hS => ?_)
    have hP : va_P G clX (wH ad cI cZ cJ aO r.2.2 (vp_updL y (Int32.toNatClampNeg 0) (Int32.toInt64 r.2.1))) H := hP
    refine lv_goto (tgt := 31) hx hb d_LW_move_16 (by decide) ?_
    refine lv_iconst (v := 0) hx hb d_LW_move_31 (by decide) ?_
    refine W.widen (k := 1) (n := 6) (by decide) (by decide) ?_
    exact W.iret hx hb hr (fun t ht _ => qh h ht hP hS) hS.2.2 d_LW_move_32
  · rw [if_neg z0] at h
    by_cases zc : r.1 = 1
    · rw [if_pos zc] at h
      refine hl_catch (k := r.1) (σ' := r.2.2) (As := [.int a1, .int a2, .int a3, .int a4, .int a5]) (rest := [.int 0, .ref aO]) ⟨hx, hb, hml.trans hl.1.symm, hown, hts⟩ (c_PM_move l hfl b0 G ad cI cZ hD.1 hD.2.1 σ a1 a2 a3 a4 a5 r g_r) (cwV 5 hts (wg_V w_386 w_387 w_388 w_1 w_389) rfl rfl rfl (by decide +kernel) ⟨Nat.le_of_ble_eq_true rfl, Nat.le_of_ble_eq_true rfl⟩) (fun a st o t q9 => ⟨q9.1, q9.2.1, q9.2.2.2 (by show r.1 ≠ 0; exact z0)⟩) hD hP hE hS z0 rfl (Nat.le_of_ble_eq_true rfl) d_LW_move_11 ⟨Nat.le_of_ble_eq_true rfl, Nat.le_of_ble_eq_true rfl⟩ (name := "java/util/NoSuchElementException") [] ⟨0, 16, 19, 13⟩ [⟨0, 16, 23, 15⟩, ⟨0, 16, 27, 17⟩] (htab.trans rfl) (fun _ h9 => nomatch h9) (by decide) (by decide) (hts _ w_207) (by rw [zc]; exact va_Nw.use rfl (hE.2.1.2.2.2.1 _ (List.mem_of_getElem? (i := 0) rfl))) (fun q9 H locs hP hS => ?_)
      refine lv_astore (lv' := [(7, .ref q9), (0, .ref (ad 0)), (1, .int a1), (2, .int a2), (3, .int a3), (4, .int a4), (5, .int a5), (6, .ref aO)]) hx hb d_LW_move_19 hl (by decide) rfl (fun ls hl => ?_)
      refine lv_iconst (v := 1) hx hb d_LW_move_21 (by decide) ?_
      refine W.widen (k := 1) (n := 6) (by decide) (by decide) ?_
      exact W.iret hx hb hr (fun t ht _ => qh h ht hP hS) hS.2.2 d_LW_move_22
    · rw [if_neg zc] at h
      by_cases zc : r.1 = 2
      · rw [if_pos zc] at h
        refine hl_catch (k := r.1) (σ' := r.2.2) (As := [.int a1, .int a2, .int a3, .int a4, .int a5]) (rest := [.int 0, .ref aO]) ⟨hx, hb, hml.trans hl.1.symm, hown, hts⟩ (c_PM_move l hfl b0 G ad cI cZ hD.1 hD.2.1 σ a1 a2 a3 a4 a5 r g_r) (cwV 5 hts (wg_V w_386 w_387 w_388 w_1 w_389) rfl rfl rfl (by decide +kernel) ⟨Nat.le_of_ble_eq_true rfl, Nat.le_of_ble_eq_true rfl⟩) (fun a st o t q9 => ⟨q9.1, q9.2.1, q9.2.2.2 (by show r.1 ≠ 0; exact z0)⟩) hD hP hE hS z0 rfl (Nat.le_of_ble_eq_true rfl) d_LW_move_11 ⟨Nat.le_of_ble_eq_true rfl, Nat.le_of_ble_eq_true rfl⟩ (name := "java/lang/IllegalArgumentException") [⟨0, 16, 19, 13⟩] ⟨0, 16, 23, 15⟩ [⟨0, 16, 27, 17⟩] (htab.trans rfl) (List.forall_mem_cons.mpr ⟨Or.inr ⟨by decide, "java/util/NoSuchElementException", hts _ w_207, by rw [zc]; exact hE.2.2.2 _ (List.mem_of_getElem? (i := 0) rfl)⟩, fun _ h9 => nomatch h9⟩) (by decide) (by decide) (hts _ w_208) (by rw [zc]; exact va_Nw.use rfl (hE.2.1.2.2.2.1 _ (List.mem_of_getElem? (i := 1) rfl))) (fun q9 H locs hP hS => ?_)
        refine lv_astore (lv' := [(7, .ref q9), (0, .ref (ad 0)), (1, .int a1), (2, .int a2), (3, .int a3), (4, .int a4), (5, .int a5), (6, .ref aO)]) hx hb d_LW_move_23 hl (by decide) rfl (fun ls hl => ?_)
        refine lv_iconst (v := 2) hx hb d_LW_move_25 (by decide) ?_
        refine W.widen (k := 1) (n := 6) (by decide) (by decide) ?_
        exact W.iret hx hb hr (fun t ht _ => qh h ht hP hS) hS.2.2 d_LW_move_26
      · rw [if_neg zc] at h
        by_cases zc : r.1 = 3
        · rw [if_pos zc] at h
          refine hl_catch (k := r.1) (σ' := r.2.2) (As := [.int a1, .int a2, .int a3, .int a4, .int a5]) (rest := [.int 0, .ref aO]) ⟨hx, hb, hml.trans hl.1.symm, hown, hts⟩ (c_PM_move l hfl b0 G ad cI cZ hD.1 hD.2.1 σ a1 a2 a3 a4 a5 r g_r) (cwV 5 hts (wg_V w_386 w_387 w_388 w_1 w_389) rfl rfl rfl (by decide +kernel) ⟨Nat.le_of_ble_eq_true rfl, Nat.le_of_ble_eq_true rfl⟩) (fun a st o t q9 => ⟨q9.1, q9.2.1, q9.2.2.2 (by show r.1 ≠ 0; exact z0)⟩) hD hP hE hS z0 rfl (Nat.le_of_ble_eq_true rfl) d_LW_move_11 ⟨Nat.le_of_ble_eq_true rfl, Nat.le_of_ble_eq_true rfl⟩ (name := "java/lang/IllegalStateException") [⟨0, 16, 19, 13⟩, ⟨0, 16, 23, 15⟩] ⟨0, 16, 27, 17⟩ [] (htab.trans rfl) (List.forall_mem_cons.mpr ⟨Or.inr ⟨by decide, "java/util/NoSuchElementException", hts _ w_207, by rw [zc]; exact hE.2.2.2 _ (List.mem_of_getElem? (i := 1) rfl)⟩, (List.forall_mem_cons.mpr ⟨Or.inr ⟨by decide, "java/lang/IllegalArgumentException", hts _ w_208, by rw [zc]; exact hE.2.2.2 _ (List.mem_of_getElem? (i := 2) rfl)⟩, fun _ h9 => nomatch h9⟩)⟩) (by decide) (by decide) (hts _ w_209) (by rw [zc]; exact va_Nw.use rfl (hE.2.1.2.2.2.1 _ (List.mem_of_getElem? (i := 2) rfl))) (fun q9 H locs hP hS => ?_)
          refine lv_astore (lv' := [(7, .ref q9), (0, .ref (ad 0)), (1, .int a1), (2, .int a2), (3, .int a3), (4, .int a4), (5, .int a5), (6, .ref aO)]) hx hb d_LW_move_27 hl (by decide) rfl (fun ls hl => ?_)
          refine lv_iconst (v := 3) hx hb d_LW_move_29 (by decide) ?_
          refine W.widen (k := 1) (n := 6) (by decide) (by decide) ?_
          exact W.iret hx hb hr (fun t ht _ => qh h ht hP hS) hS.2.2 d_LW_move_30
        · rw [if_neg zc] at h
          exact absurd h (by intro z9; cases z9)
abbrev wl_LW_into : List Cond := .codeWith ⟨"PlaceMovesLaw", "into", "(LPlaceMoves;III[J)I"⟩ method_9_code 6 (some FieldType.int) [(0, 12, 15, 13), (0, 12, 19, 15), (0, 12, 23, 17)] :: WG
set_option maxHeartbeats 4000000 in
set_option maxRecDepth 100000 in
theorem c_LW_into (l : Launch) (hfl : l.flags = pinnedFlags ++ [noTraceFlag]) (b0 : Nat) (G : va_G) (ad : Nat → Nat) (cI cZ cJ : ClassId) (aO : Nat) (hD : DH b0 ad aO) (σ : Sg) (y : Nat → Int64) (a1 : Int32) (a2 : Int32) (a3 : Int32) (out : Int32 × (Nat → Int64) × Sg) (h : h_into σ y a1 a2 a3 = some out) : Met l ⟨"PlaceMovesLaw", "into", "(LPlaceMoves;III[J)I"⟩ wl_LW_into ({ frames := 9, cells := 1, slots := 6, locals := 188 } : Room) (PcH b0 G ad cI cZ cJ aO σ y [.ref (ad 0), .int a1, .int a2, .int a3, .ref aO]) (QH G ad cI cZ cJ aO out) 1 6 (AH ad aO) := by
  refine va_MetW (cc := method_9_code) (maxL := 6) (ret := (some FieldType.int)) (hh := [(0, 12, 15, 13), (0, 12, 19, 15), (0, 12, 23, 17)]) (by decide) rfl ?_
  intro p e s m args below meth c s₁ B hml hv
  obtain ⟨rfl, hP, hE⟩ := hv
  have hx := B.exec
  have hb := B.bytes
  have hr := B.returns
  have hts0 := atoms_spec (ws := wl_LW_into) B.pre
  have hts : ∀ w ∈ WG, w.before _ s = true := fun w hw => hts0 w (List.mem_cons_of_mem _ hw)
  have htab := tx_table B (hts0 _ List.mem_cons_self)
  have hown : s.vm.findClass "PlaceMovesLaw" = some m.cls := findClass_of_methodNamed B.named
  have hlocks := B.notSynchronized
  have hS : va_S (AH ad aO) s.heap s.heap [] := va_S.rf
  have hl := lv_entry ([.ref (ad 0), .int a1, .int a2, .int a3, .ref aO]) (n := 6) (Nat.le_of_ble_eq_true rfl)
  rw [lg_entry_eq]
  generalize (lg_sl ([.ref (ad 0), .int a1, .int a2, .int a3, .ref aO]) ++ List.replicate (6 - (lg_sl ([.ref (ad 0), .int a1, .int a2, .int a3, .ref aO])).length) Slot.unset).toArray = ls at hl ⊢
  have hl : lv_has ls 6 [(0, .ref (ad 0)), (1, .int a1), (2, .int a2), (3, .int a3), (4, .ref aO)] := hl
  unfold h_into at h
  obtain ⟨r, g_r, h⟩ := ob_some h
  refine lv_aload hx hb d_LW_into_0 (lv_at hl 4 rfl) ?_
  refine lv_iconst (v := 0) hx hb d_LW_into_2 (by decide) ?_
  refine lv_aload_n hx hb d_LW_into_3 rfl (lv_at hl 0 rfl) ?_
  refine lv_iload_n hx hb d_LW_into_4 rfl (lv_at hl 1 rfl) ?_
  refine lv_iload_n hx hb d_LW_into_5 rfl (lv_at hl 2 rfl) ?_
  refine lv_iload_n hx hb d_LW_into_6 rfl (lv_at hl 3 rfl) ?_
  by_cases z0 : r.1 = 0
  · rw [if_pos z0] at h
    refine hl_ret (As := [.int a1, .int a2, .int a3]) (rest := [.int 0, .ref aO]) ⟨hx, hb, hml.trans hl.1.symm, hown, hts⟩ (c_PM_into l hfl b0 G ad cI cZ hD.1 hD.2.1 σ a1 a2 a3 r g_r) (cwV 3 hts (wg_V w_454 w_455 w_456 w_1 w_457) rfl rfl rfl (by decide +kernel) ⟨Nat.le_of_ble_eq_true rfl, Nat.le_of_ble_eq_true rfl⟩) hD hP hE hS z0 rfl (Nat.le_of_ble_eq_true rfl) d_LW_into_7 ⟨Nat.zero_le _, Nat.zero_le _⟩ (fun H locs hP hS => ?_)
    refine lv_i2l (v := Int32.toInt64 r.2.1) hx hb d_LW_into_10 rfl ?_
    refine va_last (D := G) hx hb hE.2.2.1 hP hD.d hS 32 0 rfl rfl (inB_in (by decide)) d_LW_into_11 (fun H locs hP hD9 hS => ?_)
    have hP : va_P G clX (wH ad cI cZ cJ aO r.2.2 (vp_updL y (Int32.toNatClampNeg 0) (Int32.toInt64 r.2.1))) H := hP
    refine lv_goto (tgt := 27) hx hb d_LW_into_12 (by decide) ?_
    refine lv_iconst (v := 0) hx hb d_LW_into_27 (by decide) ?_
    refine W.widen (k := 1) (n := 6) (by decide) (by decide) ?_
    exact W.iret hx hb hr (fun t ht _ => qh h ht hP hS) hS.2.2 d_LW_into_28
  · rw [if_neg z0] at h
    by_cases zc : r.1 = 1
    · rw [if_pos zc] at h
      refine hl_catch (k := r.1) (σ' := r.2.2) (As := [.int a1, .int a2, .int a3]) (rest := [.int 0, .ref aO]) ⟨hx, hb, hml.trans hl.1.symm, hown, hts⟩ (c_PM_into l hfl b0 G ad cI cZ hD.1 hD.2.1 σ a1 a2 a3 r g_r) (cwV 3 hts (wg_V w_454 w_455 w_456 w_1 w_457) rfl rfl rfl (by decide +kernel) ⟨Nat.le_of_ble_eq_true rfl, Nat.le_of_ble_eq_true rfl⟩) (fun a st o t q9 => ⟨q9.1, q9.2.1, q9.2.2.2 (by show r.1 ≠ 0; exact z0)⟩) hD hP hE hS z0 rfl (Nat.le_of_ble_eq_true rfl) d_LW_into_7 ⟨Nat.le_of_ble_eq_true rfl, Nat.le_of_ble_eq_true rfl⟩ (name := "java/util/NoSuchElementException") [] ⟨0, 12, 15, 13⟩ [⟨0, 12, 19, 15⟩, ⟨0, 12, 23, 17⟩] (htab.trans rfl) (fun _ h9 => nomatch h9) (by decide) (by decide) (hts _ w_207) (by rw [zc]; exact va_Nw.use rfl (hE.2.1.2.2.2.1 _ (List.mem_of_getElem? (i := 0) rfl))) (fun q9 H locs hP hS => ?_)
      refine lv_astore (lv' := [(5, .ref q9), (0, .ref (ad 0)), (1, .int a1), (2, .int a2), (3, .int a3), (4, .ref aO)]) hx hb d_LW_into_15 hl (by decide) rfl (fun ls hl => ?_)
      refine lv_iconst (v := 1) hx hb d_LW_into_17 (by decide) ?_
      refine W.widen (k := 1) (n := 6) (by decide) (by decide) ?_
      exact W.iret hx hb hr (fun t ht _ => qh h ht hP hS) hS.2.2 d_LW_into_18
    · rw [if_neg zc] at h
      by_cases zc : r.1 = 2
      · rw [if_pos zc] at h
        refine hl_catch (k := r.1) (σ' := r.2.2) (As := [.int a1, .int a2, .int a3]) (rest := [.int 0, .ref aO]) ⟨hx, hb, hml.trans hl.1.symm, hown, hts⟩ (c_PM_into l hfl b0 G ad cI cZ hD.1 hD.2.1 σ a1 a2 a3 r g_r) (cwV 3 hts (wg_V w_454 w_455 w_456 w_1 w_457) rfl rfl rfl (by decide +kernel) ⟨Nat.le_of_ble_eq_true rfl, Nat.le_of_ble_eq_true rfl⟩) (fun a st o t q9 => ⟨q9.1, q9.2.1, q9.2.2.2 (by show r.1 ≠ 0; exact z0)⟩) hD hP hE hS z0 rfl (Nat.le_of_ble_eq_true rfl) d_LW_into_7 ⟨Nat.le_of_ble_eq_true rfl, Nat.le_of_ble_eq_true rfl⟩ (name := "java/lang/IllegalArgumentException") [⟨0, 12, 15, 13⟩] ⟨0, 12, 19, 15⟩ [⟨0, 12, 23, 17⟩] (htab.trans rfl) (List.forall_mem_cons.mpr ⟨Or.inr ⟨by decide, "java/util/NoSuchElementException", hts _ w_207, by rw [zc]; exact hE.2.2.2 _ (List.mem_of_getElem? (i := 0) rfl)⟩, fun _ h9 => nomatch h9⟩) (by decide) (by decide) (hts _ w_208) (by rw [zc]; exact va_Nw.use rfl (hE.2.1.2.2.2.1 _ (List.mem_of_getElem? (i := 1) rfl))) (fun q9 H locs hP hS => ?_)
        refine lv_astore (lv' := [(5, .ref q9), (0, .ref (ad 0)), (1, .int a1), (2, .int a2), (3, .int a3), (4, .ref aO)]) hx hb d_LW_into_19 hl (by decide) rfl (fun ls hl => ?_)
        refine lv_iconst (v := 2) hx hb d_LW_into_21 (by decide) ?_
        refine W.widen (k := 1) (n := 6) (by decide) (by decide) ?_
        exact W.iret hx hb hr (fun t ht _ => qh h ht hP hS) hS.2.2 d_LW_into_22
      · rw [if_neg zc] at h
        by_cases zc : r.1 = 3
        · rw [if_pos zc] at h
          refine hl_catch (k := r.1) (σ' := r.2.2) (As := [.int a1, .int a2, .int a3]) (rest := [.int 0, .ref aO]) ⟨hx, hb, hml.trans hl.1.symm, hown, hts⟩ (c_PM_into l hfl b0 G ad cI cZ hD.1 hD.2.1 σ a1 a2 a3 r g_r) (cwV 3 hts (wg_V w_454 w_455 w_456 w_1 w_457) rfl rfl rfl (by decide +kernel) ⟨Nat.le_of_ble_eq_true rfl, Nat.le_of_ble_eq_true rfl⟩) (fun a st o t q9 => ⟨q9.1, q9.2.1, q9.2.2.2 (by show r.1 ≠ 0; exact z0)⟩) hD hP hE hS z0 rfl (Nat.le_of_ble_eq_true rfl) d_LW_into_7 ⟨Nat.le_of_ble_eq_true rfl, Nat.le_of_ble_eq_true rfl⟩ (name := "java/lang/IllegalStateException") [⟨0, 12, 15, 13⟩, ⟨0, 12, 19, 15⟩] ⟨0, 12, 23, 17⟩ [] (htab.trans rfl) (List.forall_mem_cons.mpr ⟨Or.inr ⟨by decide, "java/util/NoSuchElementException", hts _ w_207, by rw [zc]; exact hE.2.2.2 _ (List.mem_of_getElem? (i := 1) rfl)⟩, (List.forall_mem_cons.mpr ⟨Or.inr ⟨by decide, "java/lang/IllegalArgumentException", hts _ w_208, by rw [zc]; exact hE.2.2.2 _ (List.mem_of_getElem? (i := 2) rfl)⟩, fun _ h9 => nomatch h9⟩)⟩) (by decide) (by decide) (hts _ w_209) (by rw [zc]; exact va_Nw.use rfl (hE.2.1.2.2.2.1 _ (List.mem_of_getElem? (i := 2) rfl))) (fun q9 H locs hP hS => ?_)
          refine lv_astore (lv' := [(5, .ref q9), (0, .ref (ad 0)), (1, .int a1), (2, .int a2), (3, .int a3), (4, .ref aO)]) hx hb d_LW_into_23 hl (by decide) rfl (fun ls hl => ?_)
          refine lv_iconst (v := 3) hx hb d_LW_into_25 (by decide) ?_
          refine W.widen (k := 1) (n := 6) (by decide) (by decide) ?_
          exact W.iret hx hb hr (fun t ht _ => qh h ht hP hS) hS.2.2 d_LW_into_26
        · rw [if_neg zc] at h
          exact absurd h (by intro z9; cases z9)
abbrev wl_LW_lost : List Cond := .codeWith ⟨"PlaceMovesLaw", "lost", "(LPlaceMoves;II[J)I"⟩ method_10_code 5 (some FieldType.int) [(0, 17, 20, 13), (0, 17, 24, 15), (0, 17, 28, 17)] :: WG
set_option maxHeartbeats 4000000 in
set_option maxRecDepth 100000 in
theorem c_LW_lost (l : Launch) (hfl : l.flags = pinnedFlags ++ [noTraceFlag]) (b0 : Nat) (G : va_G) (ad : Nat → Nat) (cI cZ cJ : ClassId) (aO : Nat) (hD : DH b0 ad aO) (σ : Sg) (y : Nat → Int64) (a1 : Int32) (a2 : Int32) (out : Int32 × (Nat → Int64) × Sg) (h : h_lost σ y a1 a2 = some out) : Met l ⟨"PlaceMovesLaw", "lost", "(LPlaceMoves;II[J)I"⟩ wl_LW_lost ({ frames := 9, cells := 1, slots := 6, locals := 188 } : Room) (PcH b0 G ad cI cZ cJ aO σ y [.ref (ad 0), .int a1, .int a2, .ref aO]) (QH G ad cI cZ cJ aO out) 1 6 (AH ad aO) := by
  refine va_MetW (cc := method_10_code) (maxL := 5) (ret := (some FieldType.int)) (hh := [(0, 17, 20, 13), (0, 17, 24, 15), (0, 17, 28, 17)]) (by decide) rfl ?_
  intro p e s m args below meth c s₁ B hml hv
  obtain ⟨rfl, hP, hE⟩ := hv
  have hx := B.exec
  have hb := B.bytes
  have hr := B.returns
  have hts0 := atoms_spec (ws := wl_LW_lost) B.pre
  have hts : ∀ w ∈ WG, w.before _ s = true := fun w hw => hts0 w (List.mem_cons_of_mem _ hw)
  have htab := tx_table B (hts0 _ List.mem_cons_self)
  have hown : s.vm.findClass "PlaceMovesLaw" = some m.cls := findClass_of_methodNamed B.named
  have hlocks := B.notSynchronized
  have hS : va_S (AH ad aO) s.heap s.heap [] := va_S.rf
  have hl := lv_entry ([.ref (ad 0), .int a1, .int a2, .ref aO]) (n := 5) (Nat.le_of_ble_eq_true rfl)
  rw [lg_entry_eq]
  generalize (lg_sl ([.ref (ad 0), .int a1, .int a2, .ref aO]) ++ List.replicate (5 - (lg_sl ([.ref (ad 0), .int a1, .int a2, .ref aO])).length) Slot.unset).toArray = ls at hl ⊢
  have hl : lv_has ls 5 [(0, .ref (ad 0)), (1, .int a1), (2, .int a2), (3, .ref aO)] := hl
  unfold h_lost at h
  obtain ⟨r, g_r, h⟩ := ob_some h
  refine lv_aload_n hx hb d_LW_lost_0 rfl (lv_at hl 3 rfl) ?_
  refine lv_iconst (v := 0) hx hb d_LW_lost_1 (by decide) ?_
  refine lv_aload_n hx hb d_LW_lost_2 rfl (lv_at hl 0 rfl) ?_
  refine lv_iload_n hx hb d_LW_lost_3 rfl (lv_at hl 1 rfl) ?_
  refine lv_iload_n hx hb d_LW_lost_4 rfl (lv_at hl 2 rfl) ?_
  by_cases z0 : r.1 = 0
  · rw [if_pos z0] at h
    refine hl_ret (As := [.int a1, .int a2]) (rest := [.int 0, .ref aO]) ⟨hx, hb, hml.trans hl.1.symm, hown, hts⟩ (c_PM_lost l hfl b0 G ad cI cZ hD.1 hD.2.1 σ a1 a2 r g_r) (cwV 2 hts (wg_V w_469 w_470 w_471 w_1 w_472) rfl rfl rfl (by decide +kernel) ⟨Nat.le_of_ble_eq_true rfl, Nat.le_of_ble_eq_true rfl⟩) hD hP hE hS z0 rfl (Nat.le_of_ble_eq_true rfl) d_LW_lost_5 ⟨Nat.zero_le _, Nat.zero_le _⟩ (fun H locs hP hS => ?_)
    refine lv_if_eq (tgt := 15) hx hb d_LW_lost_8 (by decide) (fun c1 => ?_) (fun c1 => ?_)
    · rw [if_pos c1] at h
      refine lv_lconst (v := 0) hx hb d_LW_lost_15 (by decide) ?_
      refine va_last (D := G) hx hb hE.2.2.1 hP hD.d hS 32 0 rfl rfl (inB_in (by decide)) d_LW_lost_16 (fun H locs hP hD9 hS => ?_)
      have hP : va_P G clX (wH ad cI cZ cJ aO r.2.2 (vp_updL y (Int32.toNatClampNeg 0) 0)) H := hP
      refine lv_goto (tgt := 32) hx hb d_LW_lost_17 (by decide) ?_
      refine lv_iconst (v := 0) hx hb d_LW_lost_32 (by decide) ?_
      refine W.widen (k := 1) (n := 6) (by decide) (by decide) ?_
      exact W.iret hx hb hr (fun t ht _ => qh h ht hP hS) hS.2.2 d_LW_lost_33
    · rw [if_neg c1] at h
      refine lv_lconst (v := 1) hx hb d_LW_lost_11 (by decide) ?_
      refine lv_goto (tgt := 16) hx hb d_LW_lost_12 (by decide) ?_
      refine va_last (D := G) hx hb hE.2.2.1 hP hD.d hS 32 0 rfl rfl (inB_in (by decide)) d_LW_lost_16 (fun H locs hP hD9 hS => ?_)
      have hP : va_P G clX (wH ad cI cZ cJ aO r.2.2 (vp_updL y (Int32.toNatClampNeg 0) 1)) H := hP
      refine lv_goto (tgt := 32) hx hb d_LW_lost_17 (by decide) ?_
      refine lv_iconst (v := 0) hx hb d_LW_lost_32 (by decide) ?_
      refine W.widen (k := 1) (n := 6) (by decide) (by decide) ?_
      exact W.iret hx hb hr (fun t ht _ => qh h ht hP hS) hS.2.2 d_LW_lost_33
  · rw [if_neg z0] at h
    by_cases zc : r.1 = 1
    · rw [if_pos zc] at h
      refine hl_catch (k := r.1) (σ' := r.2.2) (As := [.int a1, .int a2]) (rest := [.int 0, .ref aO]) ⟨hx, hb, hml.trans hl.1.symm, hown, hts⟩ (c_PM_lost l hfl b0 G ad cI cZ hD.1 hD.2.1 σ a1 a2 r g_r) (cwV 2 hts (wg_V w_469 w_470 w_471 w_1 w_472) rfl rfl rfl (by decide +kernel) ⟨Nat.le_of_ble_eq_true rfl, Nat.le_of_ble_eq_true rfl⟩) (fun a st o t q9 => ⟨q9.1, q9.2.1, q9.2.2.2 (by show r.1 ≠ 0; exact z0)⟩) hD hP hE hS z0 rfl (Nat.le_of_ble_eq_true rfl) d_LW_lost_5 ⟨Nat.le_of_ble_eq_true rfl, Nat.le_of_ble_eq_true rfl⟩ (name := "java/util/NoSuchElementException") [] ⟨0, 17, 20, 13⟩ [⟨0, 17, 24, 15⟩, ⟨0, 17, 28, 17⟩] (htab.trans rfl) (fun _ h9 => nomatch h9) (by decide) (by decide) (hts _ w_207) (by rw [zc]; exact va_Nw.use rfl (hE.2.1.2.2.2.1 _ (List.mem_of_getElem? (i := 0) rfl))) (fun q9 H locs hP hS => ?_)
      refine lv_astore (lv' := [(4, .ref q9), (0, .ref (ad 0)), (1, .int a1), (2, .int a2), (3, .ref aO)]) hx hb d_LW_lost_20 hl (by decide) rfl (fun ls hl => ?_)
      refine lv_iconst (v := 1) hx hb d_LW_lost_22 (by decide) ?_
      refine W.widen (k := 1) (n := 6) (by decide) (by decide) ?_
      exact W.iret hx hb hr (fun t ht _ => qh h ht hP hS) hS.2.2 d_LW_lost_23
    · rw [if_neg zc] at h
      by_cases zc : r.1 = 2
      · rw [if_pos zc] at h
        refine hl_catch (k := r.1) (σ' := r.2.2) (As := [.int a1, .int a2]) (rest := [.int 0, .ref aO]) ⟨hx, hb, hml.trans hl.1.symm, hown, hts⟩ (c_PM_lost l hfl b0 G ad cI cZ hD.1 hD.2.1 σ a1 a2 r g_r) (cwV 2 hts (wg_V w_469 w_470 w_471 w_1 w_472) rfl rfl rfl (by decide +kernel) ⟨Nat.le_of_ble_eq_true rfl, Nat.le_of_ble_eq_true rfl⟩) (fun a st o t q9 => ⟨q9.1, q9.2.1, q9.2.2.2 (by show r.1 ≠ 0; exact z0)⟩) hD hP hE hS z0 rfl (Nat.le_of_ble_eq_true rfl) d_LW_lost_5 ⟨Nat.le_of_ble_eq_true rfl, Nat.le_of_ble_eq_true rfl⟩ (name := "java/lang/IllegalArgumentException") [⟨0, 17, 20, 13⟩] ⟨0, 17, 24, 15⟩ [⟨0, 17, 28, 17⟩] (htab.trans rfl) (List.forall_mem_cons.mpr ⟨Or.inr ⟨by decide, "java/util/NoSuchElementException", hts _ w_207, by rw [zc]; exact hE.2.2.2 _ (List.mem_of_getElem? (i := 0) rfl)⟩, fun _ h9 => nomatch h9⟩) (by decide) (by decide) (hts _ w_208) (by rw [zc]; exact va_Nw.use rfl (hE.2.1.2.2.2.1 _ (List.mem_of_getElem? (i := 1) rfl))) (fun q9 H locs hP hS => ?_)
        refine lv_astore (lv' := [(4, .ref q9), (0, .ref (ad 0)), (1, .int a1), (2, .int a2), (3, .ref aO)]) hx hb d_LW_lost_24 hl (by decide) rfl (fun ls hl => ?_)
        refine lv_iconst (v := 2) hx hb d_LW_lost_26 (by decide) ?_
        refine W.widen (k := 1) (n := 6) (by decide) (by decide) ?_
        exact W.iret hx hb hr (fun t ht _ => qh h ht hP hS) hS.2.2 d_LW_lost_27
      · rw [if_neg zc] at h
        by_cases zc : r.1 = 3
        · rw [if_pos zc] at h
          refine hl_catch (k := r.1) (σ' := r.2.2) (As := [.int a1, .int a2]) (rest := [.int 0, .ref aO]) ⟨hx, hb, hml.trans hl.1.symm, hown, hts⟩ (c_PM_lost l hfl b0 G ad cI cZ hD.1 hD.2.1 σ a1 a2 r g_r) (cwV 2 hts (wg_V w_469 w_470 w_471 w_1 w_472) rfl rfl rfl (by decide +kernel) ⟨Nat.le_of_ble_eq_true rfl, Nat.le_of_ble_eq_true rfl⟩) (fun a st o t q9 => ⟨q9.1, q9.2.1, q9.2.2.2 (by show r.1 ≠ 0; exact z0)⟩) hD hP hE hS z0 rfl (Nat.le_of_ble_eq_true rfl) d_LW_lost_5 ⟨Nat.le_of_ble_eq_true rfl, Nat.le_of_ble_eq_true rfl⟩ (name := "java/lang/IllegalStateException") [⟨0, 17, 20, 13⟩, ⟨0, 17, 24, 15⟩] ⟨0, 17, 28, 17⟩ [] (htab.trans rfl) (List.forall_mem_cons.mpr ⟨Or.inr ⟨by decide, "java/util/NoSuchElementException", hts _ w_207, by rw [zc]; exact hE.2.2.2 _ (List.mem_of_getElem? (i := 1) rfl)⟩, (List.forall_mem_cons.mpr ⟨Or.inr ⟨by decide, "java/lang/IllegalArgumentException", hts _ w_208, by rw [zc]; exact hE.2.2.2 _ (List.mem_of_getElem? (i := 2) rfl)⟩, fun _ h9 => nomatch h9⟩)⟩) (by decide) (by decide) (hts _ w_209) (by rw [zc]; exact va_Nw.use rfl (hE.2.1.2.2.2.1 _ (List.mem_of_getElem? (i := 2) rfl))) (fun q9 H locs hP hS => ?_)
          refine lv_astore (lv' := [(4, .ref q9), (0, .ref (ad 0)), (1, .int a1), (2, .int a2), (3, .ref aO)]) hx hb d_LW_lost_28 hl (by decide) rfl (fun ls hl => ?_)
          refine lv_iconst (v := 3) hx hb d_LW_lost_30 (by decide) ?_
          refine W.widen (k := 1) (n := 6) (by decide) (by decide) ?_
          exact W.iret hx hb hr (fun t ht _ => qh h ht hP hS) hS.2.2 d_LW_lost_31
        · rw [if_neg zc] at h
          exact absurd h (by intro z9; cases z9)
abbrev wl_LW_where : List Cond := .codeWith ⟨"PlaceMovesLaw", "where", "(LPlaceMoves;II[J)I"⟩ method_11_code 5 (some FieldType.int) [(0, 10, 13, 13)] :: WG
set_option maxHeartbeats 4000000 in
set_option maxRecDepth 100000 in
theorem c_LW_where (l : Launch) (hfl : l.flags = pinnedFlags ++ [noTraceFlag]) (b0 : Nat) (G : va_G) (ad : Nat → Nat) (cI cZ cJ : ClassId) (aO : Nat) (hD : DH b0 ad aO) (σ : Sg) (y : Nat → Int64) (a1 : Int32) (a2 : Int32) (out : Int32 × (Nat → Int64) × Sg) (h : h_where σ y a1 a2 = some out) : Met l ⟨"PlaceMovesLaw", "where", "(LPlaceMoves;II[J)I"⟩ wl_LW_where ({ frames := 9, cells := 1, slots := 6, locals := 154 } : Room) (PcH b0 G ad cI cZ cJ aO σ y [.ref (ad 0), .int a1, .int a2, .ref aO]) (QH G ad cI cZ cJ aO out) 1 6 (AH ad aO) := by
  refine va_MetW (cc := method_11_code) (maxL := 5) (ret := (some FieldType.int)) (hh := [(0, 10, 13, 13)]) (by decide) rfl ?_
  intro p e s m args below meth c s₁ B hml hv
  obtain ⟨rfl, hP, hE⟩ := hv
  have hx := B.exec
  have hb := B.bytes
  have hr := B.returns
  have hts0 := atoms_spec (ws := wl_LW_where) B.pre
  have hts : ∀ w ∈ WG, w.before _ s = true := fun w hw => hts0 w (List.mem_cons_of_mem _ hw)
  have htab := tx_table B (hts0 _ List.mem_cons_self)
  have hown : s.vm.findClass "PlaceMovesLaw" = some m.cls := findClass_of_methodNamed B.named
  have hlocks := B.notSynchronized
  have hS : va_S (AH ad aO) s.heap s.heap [] := va_S.rf
  have hl := lv_entry ([.ref (ad 0), .int a1, .int a2, .ref aO]) (n := 5) (Nat.le_of_ble_eq_true rfl)
  rw [lg_entry_eq]
  generalize (lg_sl ([.ref (ad 0), .int a1, .int a2, .ref aO]) ++ List.replicate (5 - (lg_sl ([.ref (ad 0), .int a1, .int a2, .ref aO])).length) Slot.unset).toArray = ls at hl ⊢
  have hl : lv_has ls 5 [(0, .ref (ad 0)), (1, .int a1), (2, .int a2), (3, .ref aO)] := hl
  unfold h_where at h
  obtain ⟨r, g_r, h⟩ := ob_some h
  refine lv_aload_n hx hb d_LW_where_0 rfl (lv_at hl 3 rfl) ?_
  refine lv_iconst (v := 0) hx hb d_LW_where_1 (by decide) ?_
  refine lv_aload_n hx hb d_LW_where_2 rfl (lv_at hl 0 rfl) ?_
  refine lv_iload_n hx hb d_LW_where_3 rfl (lv_at hl 1 rfl) ?_
  refine lv_iload_n hx hb d_LW_where_4 rfl (lv_at hl 2 rfl) ?_
  by_cases z0 : r.1 = 0
  · rw [if_pos z0] at h
    refine hl_ret (As := [.int a1, .int a2]) (rest := [.int 0, .ref aO]) ⟨hx, hb, hml.trans hl.1.symm, hown, hts⟩ (tx_asX (c_PM_where l hfl b0 G ad cI cZ σ a1 a2 r g_r)) (cwV 2 hts (wg_V w_476 w_477 w_478 w_1 w_479) rfl rfl rfl (by decide +kernel) ⟨Nat.le_of_ble_eq_true rfl, Nat.le_of_ble_eq_true rfl⟩) hD hP hE hS z0 rfl (Nat.le_of_ble_eq_true rfl) d_LW_where_5 ⟨Nat.zero_le _, Nat.zero_le _⟩ (fun H locs hP hS => ?_)
    refine lv_i2l (v := Int32.toInt64 r.2) hx hb d_LW_where_8 rfl ?_
    refine va_last (D := G) hx hb hE.2.2.1 hP hD.d hS 32 0 rfl rfl (inB_in (by decide)) d_LW_where_9 (fun H locs hP hD9 hS => ?_)
    have hP : va_P G clX (wH ad cI cZ cJ aO σ (vp_updL y (Int32.toNatClampNeg 0) (Int32.toInt64 r.2))) H := hP
    refine lv_goto (tgt := 17) hx hb d_LW_where_10 (by decide) ?_
    refine lv_iconst (v := 0) hx hb d_LW_where_17 (by decide) ?_
    refine W.widen (k := 1) (n := 6) (by decide) (by decide) ?_
    exact W.iret hx hb hr (fun t ht _ => qh h ht hP hS) hS.2.2 d_LW_where_18
  · rw [if_neg z0] at h
    by_cases zc : r.1 = 1
    · rw [if_pos zc] at h
      refine hl_catch (k := r.1) (σ' := σ) (As := [.int a1, .int a2]) (rest := [.int 0, .ref aO]) ⟨hx, hb, hml.trans hl.1.symm, hown, hts⟩ (tx_asX (c_PM_where l hfl b0 G ad cI cZ σ a1 a2 r g_r)) (cwV 2 hts (wg_V w_476 w_477 w_478 w_1 w_479) rfl rfl rfl (by decide +kernel) ⟨Nat.le_of_ble_eq_true rfl, Nat.le_of_ble_eq_true rfl⟩) (fun a st o t q9 => ⟨q9.1, q9.2.1, q9.2.2.2 (by show r.1 ≠ 0; exact z0)⟩) hD hP hE hS z0 rfl (Nat.le_of_ble_eq_true rfl) d_LW_where_5 ⟨Nat.le_of_ble_eq_true rfl, Nat.le_of_ble_eq_true rfl⟩ (name := "java/util/NoSuchElementException") [] ⟨0, 10, 13, 13⟩ [] (htab.trans rfl) (fun _ h9 => nomatch h9) (by decide) (by decide) (hts _ w_207) (by rw [zc]; exact va_Nw.use rfl (hE.2.1.2.2.2.1 _ (List.mem_of_getElem? (i := 0) rfl))) (fun q9 H locs hP hS => ?_)
      refine lv_astore (lv' := [(4, .ref q9), (0, .ref (ad 0)), (1, .int a1), (2, .int a2), (3, .ref aO)]) hx hb d_LW_where_13 hl (by decide) rfl (fun ls hl => ?_)
      refine lv_iconst (v := 1) hx hb d_LW_where_15 (by decide) ?_
      refine W.widen (k := 1) (n := 6) (by decide) (by decide) ?_
      exact W.iret hx hb hr (fun t ht _ => qh h ht hP hS) hS.2.2 d_LW_where_16
    · rw [if_neg zc] at h
      exact absurd h (by intro z9; cases z9)
abbrev wl_LW_last : List Cond := .codeWith ⟨"PlaceMovesLaw", "last", "(LPlaceMoves;I[J)I"⟩ method_12_code 4 (some FieldType.int) [(0, 9, 12, 13)] :: WG
set_option maxHeartbeats 4000000 in
set_option maxRecDepth 100000 in
theorem c_LW_last (l : Launch) (hfl : l.flags = pinnedFlags ++ [noTraceFlag]) (b0 : Nat) (G : va_G) (ad : Nat → Nat) (cI cZ cJ : ClassId) (aO : Nat) (hD : DH b0 ad aO) (σ : Sg) (y : Nat → Int64) (a1 : Int32) (out : Int32 × (Nat → Int64) × Sg) (h : h_last σ y a1 = some out) : Met l ⟨"PlaceMovesLaw", "last", "(LPlaceMoves;I[J)I"⟩ wl_LW_last ({ frames := 9, cells := 1, slots := 6, locals := 156 } : Room) (PcH b0 G ad cI cZ cJ aO σ y [.ref (ad 0), .int a1, .ref aO]) (QH G ad cI cZ cJ aO out) 1 6 (AH ad aO) := by
  refine va_MetW (cc := method_12_code) (maxL := 4) (ret := (some FieldType.int)) (hh := [(0, 9, 12, 13)]) (by decide) rfl ?_
  intro p e s m args below meth c s₁ B hml hv
  obtain ⟨rfl, hP, hE⟩ := hv
  have hx := B.exec
  have hb := B.bytes
  have hr := B.returns
  have hts0 := atoms_spec (ws := wl_LW_last) B.pre
  have hts : ∀ w ∈ WG, w.before _ s = true := fun w hw => hts0 w (List.mem_cons_of_mem _ hw)
  have htab := tx_table B (hts0 _ List.mem_cons_self)
  have hown : s.vm.findClass "PlaceMovesLaw" = some m.cls := findClass_of_methodNamed B.named
  have hlocks := B.notSynchronized
  have hS : va_S (AH ad aO) s.heap s.heap [] := va_S.rf
  have hl := lv_entry ([.ref (ad 0), .int a1, .ref aO]) (n := 4) (Nat.le_of_ble_eq_true rfl)
  rw [lg_entry_eq]
  generalize (lg_sl ([.ref (ad 0), .int a1, .ref aO]) ++ List.replicate (4 - (lg_sl ([.ref (ad 0), .int a1, .ref aO])).length) Slot.unset).toArray = ls at hl ⊢
  have hl : lv_has ls 4 [(0, .ref (ad 0)), (1, .int a1), (2, .ref aO)] := hl
  unfold h_last at h
  obtain ⟨r, g_r, h⟩ := ob_some h
  refine lv_aload_n hx hb d_LW_last_0 rfl (lv_at hl 2 rfl) ?_
  refine lv_iconst (v := 0) hx hb d_LW_last_1 (by decide) ?_
  refine lv_aload_n hx hb d_LW_last_2 rfl (lv_at hl 0 rfl) ?_
  refine lv_iload_n hx hb d_LW_last_3 rfl (lv_at hl 1 rfl) ?_
  by_cases z0 : r.1 = 0
  · rw [if_pos z0] at h
    refine hl_ret (As := [.int a1]) (rest := [.int 0, .ref aO]) ⟨hx, hb, hml.trans hl.1.symm, hown, hts⟩ (tx_asX (c_PM_last l hfl b0 G ad cI cZ σ a1 r g_r)) (cwV 1 hts (wg_V w_483 w_484 w_485 w_1 w_486) rfl rfl rfl (by decide +kernel) ⟨Nat.le_of_ble_eq_true rfl, Nat.le_of_ble_eq_true rfl⟩) hD hP hE hS z0 rfl (Nat.le_of_ble_eq_true rfl) d_LW_last_4 ⟨Nat.zero_le _, Nat.zero_le _⟩ (fun H locs hP hS => ?_)
    refine lv_i2l (v := Int32.toInt64 r.2) hx hb d_LW_last_7 rfl ?_
    refine va_last (D := G) hx hb hE.2.2.1 hP hD.d hS 32 0 rfl rfl (inB_in (by decide)) d_LW_last_8 (fun H locs hP hD9 hS => ?_)
    have hP : va_P G clX (wH ad cI cZ cJ aO σ (vp_updL y (Int32.toNatClampNeg 0) (Int32.toInt64 r.2))) H := hP
    refine lv_goto (tgt := 15) hx hb d_LW_last_9 (by decide) ?_
    refine lv_iconst (v := 0) hx hb d_LW_last_15 (by decide) ?_
    refine W.widen (k := 1) (n := 6) (by decide) (by decide) ?_
    exact W.iret hx hb hr (fun t ht _ => qh h ht hP hS) hS.2.2 d_LW_last_16
  · rw [if_neg z0] at h
    by_cases zc : r.1 = 1
    · rw [if_pos zc] at h
      refine hl_catch (k := r.1) (σ' := σ) (As := [.int a1]) (rest := [.int 0, .ref aO]) ⟨hx, hb, hml.trans hl.1.symm, hown, hts⟩ (tx_asX (c_PM_last l hfl b0 G ad cI cZ σ a1 r g_r)) (cwV 1 hts (wg_V w_483 w_484 w_485 w_1 w_486) rfl rfl rfl (by decide +kernel) ⟨Nat.le_of_ble_eq_true rfl, Nat.le_of_ble_eq_true rfl⟩) (fun a st o t q9 => ⟨q9.1, q9.2.1, q9.2.2.2 (by show r.1 ≠ 0; exact z0)⟩) hD hP hE hS z0 rfl (Nat.le_of_ble_eq_true rfl) d_LW_last_4 ⟨Nat.le_of_ble_eq_true rfl, Nat.le_of_ble_eq_true rfl⟩ (name := "java/util/NoSuchElementException") [] ⟨0, 9, 12, 13⟩ [] (htab.trans rfl) (fun _ h9 => nomatch h9) (by decide) (by decide) (hts _ w_207) (by rw [zc]; exact va_Nw.use rfl (hE.2.1.2.2.2.1 _ (List.mem_of_getElem? (i := 0) rfl))) (fun q9 H locs hP hS => ?_)
      refine lv_astore_n (lv' := [(3, .ref q9), (0, .ref (ad 0)), (1, .int a1), (2, .ref aO)]) hx hb d_LW_last_12 rfl hl (by decide) rfl (fun ls hl => ?_)
      refine lv_iconst (v := 1) hx hb d_LW_last_13 (by decide) ?_
      refine W.widen (k := 1) (n := 6) (by decide) (by decide) ?_
      exact W.iret hx hb hr (fun t ht _ => qh h ht hP hS) hS.2.2 d_LW_last_14
    · rw [if_neg zc] at h
      exact absurd h (by intro z9; cases z9)
abbrev wl_LW_history : List Cond := .codeWith ⟨"PlaceMovesLaw", "history", "(LPlaceMoves;III[J)I"⟩ method_13_code 6 (some FieldType.int) [(0, 12, 15, 13), (0, 12, 19, 15)] :: WG
set_option maxHeartbeats 4000000 in
set_option maxRecDepth 100000 in
theorem c_LW_history (l : Launch) (hfl : l.flags = pinnedFlags ++ [noTraceFlag]) (b0 : Nat) (G : va_G) (ad : Nat → Nat) (cI cZ cJ : ClassId) (aO : Nat) (hD : DH b0 ad aO) (σ : Sg) (y : Nat → Int64) (a1 : Int32) (a2 : Int32) (a3 : Int32) (out : Int32 × (Nat → Int64) × Sg) (h : h_history σ y a1 a2 a3 = some out) : Met l ⟨"PlaceMovesLaw", "history", "(LPlaceMoves;III[J)I"⟩ wl_LW_history ({ frames := 9, cells := 1, slots := 6, locals := 156 } : Room) (PcH b0 G ad cI cZ cJ aO σ y [.ref (ad 0), .int a1, .int a2, .int a3, .ref aO]) (QH G ad cI cZ cJ aO out) 1 6 (AH ad aO) := by
  refine va_MetW (cc := method_13_code) (maxL := 6) (ret := (some FieldType.int)) (hh := [(0, 12, 15, 13), (0, 12, 19, 15)]) (by decide) rfl ?_
  intro p e s m args below meth c s₁ B hml hv
  obtain ⟨rfl, hP, hE⟩ := hv
  have hx := B.exec
  have hb := B.bytes
  have hr := B.returns
  have hts0 := atoms_spec (ws := wl_LW_history) B.pre
  have hts : ∀ w ∈ WG, w.before _ s = true := fun w hw => hts0 w (List.mem_cons_of_mem _ hw)
  have htab := tx_table B (hts0 _ List.mem_cons_self)
  have hown : s.vm.findClass "PlaceMovesLaw" = some m.cls := findClass_of_methodNamed B.named
  have hlocks := B.notSynchronized
  have hS : va_S (AH ad aO) s.heap s.heap [] := va_S.rf
  have hl := lv_entry ([.ref (ad 0), .int a1, .int a2, .int a3, .ref aO]) (n := 6) (Nat.le_of_ble_eq_true rfl)
  rw [lg_entry_eq]
  generalize (lg_sl ([.ref (ad 0), .int a1, .int a2, .int a3, .ref aO]) ++ List.replicate (6 - (lg_sl ([.ref (ad 0), .int a1, .int a2, .int a3, .ref aO])).length) Slot.unset).toArray = ls at hl ⊢
  have hl : lv_has ls 6 [(0, .ref (ad 0)), (1, .int a1), (2, .int a2), (3, .int a3), (4, .ref aO)] := hl
  unfold h_history at h
  obtain ⟨r, g_r, h⟩ := ob_some h
  refine lv_aload hx hb d_LW_history_0 (lv_at hl 4 rfl) ?_
  refine lv_iconst (v := 0) hx hb d_LW_history_2 (by decide) ?_
  refine lv_aload_n hx hb d_LW_history_3 rfl (lv_at hl 0 rfl) ?_
  refine lv_iload_n hx hb d_LW_history_4 rfl (lv_at hl 1 rfl) ?_
  refine lv_iload_n hx hb d_LW_history_5 rfl (lv_at hl 2 rfl) ?_
  refine lv_iload_n hx hb d_LW_history_6 rfl (lv_at hl 3 rfl) ?_
  by_cases z0 : r.1 = 0
  · rw [if_pos z0] at h
    refine hl_ret (As := [.int a1, .int a2, .int a3]) (rest := [.int 0, .ref aO]) ⟨hx, hb, hml.trans hl.1.symm, hown, hts⟩ (tx_asX (c_PM_history l hfl b0 G ad cI cZ σ a1 a2 a3 r g_r)) (cwV 3 hts (wg_V w_495 w_496 w_497 w_1 w_498) rfl rfl rfl (by decide +kernel) ⟨Nat.le_of_ble_eq_true rfl, Nat.le_of_ble_eq_true rfl⟩) hD hP hE hS z0 rfl (Nat.le_of_ble_eq_true rfl) d_LW_history_7 ⟨Nat.zero_le _, Nat.zero_le _⟩ (fun H locs hP hS => ?_)
    refine lv_i2l (v := Int32.toInt64 r.2) hx hb d_LW_history_10 rfl ?_
    refine va_last (D := G) hx hb hE.2.2.1 hP hD.d hS 32 0 rfl rfl (inB_in (by decide)) d_LW_history_11 (fun H locs hP hD9 hS => ?_)
    have hP : va_P G clX (wH ad cI cZ cJ aO σ (vp_updL y (Int32.toNatClampNeg 0) (Int32.toInt64 r.2))) H := hP
    refine lv_goto (tgt := 23) hx hb d_LW_history_12 (by decide) ?_
    refine lv_iconst (v := 0) hx hb d_LW_history_23 (by decide) ?_
    refine W.widen (k := 1) (n := 6) (by decide) (by decide) ?_
    exact W.iret hx hb hr (fun t ht _ => qh h ht hP hS) hS.2.2 d_LW_history_24
  · rw [if_neg z0] at h
    by_cases zc : r.1 = 1
    · rw [if_pos zc] at h
      refine hl_catch (k := r.1) (σ' := σ) (As := [.int a1, .int a2, .int a3]) (rest := [.int 0, .ref aO]) ⟨hx, hb, hml.trans hl.1.symm, hown, hts⟩ (tx_asX (c_PM_history l hfl b0 G ad cI cZ σ a1 a2 a3 r g_r)) (cwV 3 hts (wg_V w_495 w_496 w_497 w_1 w_498) rfl rfl rfl (by decide +kernel) ⟨Nat.le_of_ble_eq_true rfl, Nat.le_of_ble_eq_true rfl⟩) (fun a st o t q9 => ⟨q9.1, q9.2.1, q9.2.2.2 (by show r.1 ≠ 0; exact z0)⟩) hD hP hE hS z0 rfl (Nat.le_of_ble_eq_true rfl) d_LW_history_7 ⟨Nat.le_of_ble_eq_true rfl, Nat.le_of_ble_eq_true rfl⟩ (name := "java/util/NoSuchElementException") [] ⟨0, 12, 15, 13⟩ [⟨0, 12, 19, 15⟩] (htab.trans rfl) (fun _ h9 => nomatch h9) (by decide) (by decide) (hts _ w_207) (by rw [zc]; exact va_Nw.use rfl (hE.2.1.2.2.2.1 _ (List.mem_of_getElem? (i := 0) rfl))) (fun q9 H locs hP hS => ?_)
      refine lv_astore (lv' := [(5, .ref q9), (0, .ref (ad 0)), (1, .int a1), (2, .int a2), (3, .int a3), (4, .ref aO)]) hx hb d_LW_history_15 hl (by decide) rfl (fun ls hl => ?_)
      refine lv_iconst (v := 1) hx hb d_LW_history_17 (by decide) ?_
      refine W.widen (k := 1) (n := 6) (by decide) (by decide) ?_
      exact W.iret hx hb hr (fun t ht _ => qh h ht hP hS) hS.2.2 d_LW_history_18
    · rw [if_neg zc] at h
      by_cases zc : r.1 = 2
      · rw [if_pos zc] at h
        refine hl_catch (k := r.1) (σ' := σ) (As := [.int a1, .int a2, .int a3]) (rest := [.int 0, .ref aO]) ⟨hx, hb, hml.trans hl.1.symm, hown, hts⟩ (tx_asX (c_PM_history l hfl b0 G ad cI cZ σ a1 a2 a3 r g_r)) (cwV 3 hts (wg_V w_495 w_496 w_497 w_1 w_498) rfl rfl rfl (by decide +kernel) ⟨Nat.le_of_ble_eq_true rfl, Nat.le_of_ble_eq_true rfl⟩) (fun a st o t q9 => ⟨q9.1, q9.2.1, q9.2.2.2 (by show r.1 ≠ 0; exact z0)⟩) hD hP hE hS z0 rfl (Nat.le_of_ble_eq_true rfl) d_LW_history_7 ⟨Nat.le_of_ble_eq_true rfl, Nat.le_of_ble_eq_true rfl⟩ (name := "java/lang/IllegalArgumentException") [⟨0, 12, 15, 13⟩] ⟨0, 12, 19, 15⟩ [] (htab.trans rfl) (List.forall_mem_cons.mpr ⟨Or.inr ⟨by decide, "java/util/NoSuchElementException", hts _ w_207, by rw [zc]; exact hE.2.2.2 _ (List.mem_of_getElem? (i := 0) rfl)⟩, fun _ h9 => nomatch h9⟩) (by decide) (by decide) (hts _ w_208) (by rw [zc]; exact va_Nw.use rfl (hE.2.1.2.2.2.1 _ (List.mem_of_getElem? (i := 1) rfl))) (fun q9 H locs hP hS => ?_)
        refine lv_astore (lv' := [(5, .ref q9), (0, .ref (ad 0)), (1, .int a1), (2, .int a2), (3, .int a3), (4, .ref aO)]) hx hb d_LW_history_19 hl (by decide) rfl (fun ls hl => ?_)
        refine lv_iconst (v := 2) hx hb d_LW_history_21 (by decide) ?_
        refine W.widen (k := 1) (n := 6) (by decide) (by decide) ?_
        exact W.iret hx hb hr (fun t ht _ => qh h ht hP hS) hS.2.2 d_LW_history_22
      · rw [if_neg zc] at h
        exact absurd h (by intro z9; cases z9)
abbrev wl_LW_door : List Cond := .codeWith ⟨"PlaceMovesLaw", "door", "(LPlaceMoves;IIII[J)I"⟩ method_14_code 7 (some FieldType.int) [(0, 14, 17, 13), (0, 14, 21, 15), (0, 14, 25, 17)] :: WG
set_option maxHeartbeats 4000000 in
set_option maxRecDepth 100000 in
theorem c_LW_door (l : Launch) (hfl : l.flags = pinnedFlags ++ [noTraceFlag]) (b0 : Nat) (G : va_G) (ad : Nat → Nat) (cI cZ cJ : ClassId) (aO : Nat) (hD : DH b0 ad aO) (σ : Sg) (y : Nat → Int64) (a1 : Int32) (a2 : Int32) (a3 : Int32) (a4 : Int32) (out : Int32 × (Nat → Int64) × Sg) (h : h_door σ y a1 a2 a3 a4 = some out) : Met l ⟨"PlaceMovesLaw", "door", "(LPlaceMoves;IIII[J)I"⟩ wl_LW_door ({ frames := 9, cells := 1, slots := 6, locals := 156 } : Room) (PcH b0 G ad cI cZ cJ aO σ y [.ref (ad 0), .int a1, .int a2, .int a3, .int a4, .ref aO]) (QH G ad cI cZ cJ aO out) 1 6 (AH ad aO) := by
  refine va_MetW (cc := method_14_code) (maxL := 7) (ret := (some FieldType.int)) (hh := [(0, 14, 17, 13), (0, 14, 21, 15), (0, 14, 25, 17)]) (by decide) rfl ?_
  intro p e s m args below meth c s₁ B hml hv
  obtain ⟨rfl, hP, hE⟩ := hv
  have hx := B.exec
  have hb := B.bytes
  have hr := B.returns
  have hts0 := atoms_spec (ws := wl_LW_door) B.pre
  have hts : ∀ w ∈ WG, w.before _ s = true := fun w hw => hts0 w (List.mem_cons_of_mem _ hw)
  have htab := tx_table B (hts0 _ List.mem_cons_self)
  have hown : s.vm.findClass "PlaceMovesLaw" = some m.cls := findClass_of_methodNamed B.named
  have hlocks := B.notSynchronized
  have hS : va_S (AH ad aO) s.heap s.heap [] := va_S.rf
  have hl := lv_entry ([.ref (ad 0), .int a1, .int a2, .int a3, .int a4, .ref aO]) (n := 7) (Nat.le_of_ble_eq_true rfl)
  rw [lg_entry_eq]
  generalize (lg_sl ([.ref (ad 0), .int a1, .int a2, .int a3, .int a4, .ref aO]) ++ List.replicate (7 - (lg_sl ([.ref (ad 0), .int a1, .int a2, .int a3, .int a4, .ref aO])).length) Slot.unset).toArray = ls at hl ⊢
  have hl : lv_has ls 7 [(0, .ref (ad 0)), (1, .int a1), (2, .int a2), (3, .int a3), (4, .int a4), (5, .ref aO)] := hl
  unfold h_door at h
  obtain ⟨r, g_r, h⟩ := ob_some h
  refine lv_aload hx hb d_LW_door_0 (lv_at hl 5 rfl) ?_
  refine lv_iconst (v := 0) hx hb d_LW_door_2 (by decide) ?_
  refine lv_aload_n hx hb d_LW_door_3 rfl (lv_at hl 0 rfl) ?_
  refine lv_iload_n hx hb d_LW_door_4 rfl (lv_at hl 1 rfl) ?_
  refine lv_iload_n hx hb d_LW_door_5 rfl (lv_at hl 2 rfl) ?_
  refine lv_iload_n hx hb d_LW_door_6 rfl (lv_at hl 3 rfl) ?_
  refine lv_iload hx hb d_LW_door_7 (lv_at hl 4 rfl) ?_
  by_cases z0 : r.1 = 0
  · rw [if_pos z0] at h
    refine hl_ret (As := [.int a1, .int a2, .int a3, .int a4]) (rest := [.int 0, .ref aO]) ⟨hx, hb, hml.trans hl.1.symm, hown, hts⟩ (c_PM_door l hfl b0 G ad cI cZ hD.1 hD.2.1 σ a1 a2 a3 a4 r g_r) (cwV 4 hts (wg_V w_503 w_504 w_505 w_1 w_506) rfl rfl rfl (by decide +kernel) ⟨Nat.le_of_ble_eq_true rfl, Nat.le_of_ble_eq_true rfl⟩) hD hP hE hS z0 rfl (Nat.le_of_ble_eq_true rfl) d_LW_door_9 ⟨Nat.zero_le _, Nat.zero_le _⟩ (fun H locs hP hS => ?_)
    refine lv_i2l (v := Int32.toInt64 r.2.1) hx hb d_LW_door_12 rfl ?_
    refine va_last (D := G) hx hb hE.2.2.1 hP hD.d hS 32 0 rfl rfl (inB_in (by decide)) d_LW_door_13 (fun H locs hP hD9 hS => ?_)
    have hP : va_P G clX (wH ad cI cZ cJ aO r.2.2 (vp_updL y (Int32.toNatClampNeg 0) (Int32.toInt64 r.2.1))) H := hP
    refine lv_goto (tgt := 29) hx hb d_LW_door_14 (by decide) ?_
    refine lv_iconst (v := 0) hx hb d_LW_door_29 (by decide) ?_
    refine W.widen (k := 1) (n := 6) (by decide) (by decide) ?_
    exact W.iret hx hb hr (fun t ht _ => qh h ht hP hS) hS.2.2 d_LW_door_30
  · rw [if_neg z0] at h
    by_cases zc : r.1 = 1
    · rw [if_pos zc] at h
      refine hl_catch (k := r.1) (σ' := r.2.2) (As := [.int a1, .int a2, .int a3, .int a4]) (rest := [.int 0, .ref aO]) ⟨hx, hb, hml.trans hl.1.symm, hown, hts⟩ (c_PM_door l hfl b0 G ad cI cZ hD.1 hD.2.1 σ a1 a2 a3 a4 r g_r) (cwV 4 hts (wg_V w_503 w_504 w_505 w_1 w_506) rfl rfl rfl (by decide +kernel) ⟨Nat.le_of_ble_eq_true rfl, Nat.le_of_ble_eq_true rfl⟩) (fun a st o t q9 => ⟨q9.1, q9.2.1, q9.2.2.2 (by show r.1 ≠ 0; exact z0)⟩) hD hP hE hS z0 rfl (Nat.le_of_ble_eq_true rfl) d_LW_door_9 ⟨Nat.le_of_ble_eq_true rfl, Nat.le_of_ble_eq_true rfl⟩ (name := "java/util/NoSuchElementException") [] ⟨0, 14, 17, 13⟩ [⟨0, 14, 21, 15⟩, ⟨0, 14, 25, 17⟩] (htab.trans rfl) (fun _ h9 => nomatch h9) (by decide) (by decide) (hts _ w_207) (by rw [zc]; exact va_Nw.use rfl (hE.2.1.2.2.2.1 _ (List.mem_of_getElem? (i := 0) rfl))) (fun q9 H locs hP hS => ?_)
      refine lv_astore (lv' := [(6, .ref q9), (0, .ref (ad 0)), (1, .int a1), (2, .int a2), (3, .int a3), (4, .int a4), (5, .ref aO)]) hx hb d_LW_door_17 hl (by decide) rfl (fun ls hl => ?_)
      refine lv_iconst (v := 1) hx hb d_LW_door_19 (by decide) ?_
      refine W.widen (k := 1) (n := 6) (by decide) (by decide) ?_
      exact W.iret hx hb hr (fun t ht _ => qh h ht hP hS) hS.2.2 d_LW_door_20
    · rw [if_neg zc] at h
      by_cases zc : r.1 = 2
      · rw [if_pos zc] at h
        refine hl_catch (k := r.1) (σ' := r.2.2) (As := [.int a1, .int a2, .int a3, .int a4]) (rest := [.int 0, .ref aO]) ⟨hx, hb, hml.trans hl.1.symm, hown, hts⟩ (c_PM_door l hfl b0 G ad cI cZ hD.1 hD.2.1 σ a1 a2 a3 a4 r g_r) (cwV 4 hts (wg_V w_503 w_504 w_505 w_1 w_506) rfl rfl rfl (by decide +kernel) ⟨Nat.le_of_ble_eq_true rfl, Nat.le_of_ble_eq_true rfl⟩) (fun a st o t q9 => ⟨q9.1, q9.2.1, q9.2.2.2 (by show r.1 ≠ 0; exact z0)⟩) hD hP hE hS z0 rfl (Nat.le_of_ble_eq_true rfl) d_LW_door_9 ⟨Nat.le_of_ble_eq_true rfl, Nat.le_of_ble_eq_true rfl⟩ (name := "java/lang/IllegalArgumentException") [⟨0, 14, 17, 13⟩] ⟨0, 14, 21, 15⟩ [⟨0, 14, 25, 17⟩] (htab.trans rfl) (List.forall_mem_cons.mpr ⟨Or.inr ⟨by decide, "java/util/NoSuchElementException", hts _ w_207, by rw [zc]; exact hE.2.2.2 _ (List.mem_of_getElem? (i := 0) rfl)⟩, fun _ h9 => nomatch h9⟩) (by decide) (by decide) (hts _ w_208) (by rw [zc]; exact va_Nw.use rfl (hE.2.1.2.2.2.1 _ (List.mem_of_getElem? (i := 1) rfl))) (fun q9 H locs hP hS => ?_)
        refine lv_astore (lv' := [(6, .ref q9), (0, .ref (ad 0)), (1, .int a1), (2, .int a2), (3, .int a3), (4, .int a4), (5, .ref aO)]) hx hb d_LW_door_21 hl (by decide) rfl (fun ls hl => ?_)
        refine lv_iconst (v := 2) hx hb d_LW_door_23 (by decide) ?_
        refine W.widen (k := 1) (n := 6) (by decide) (by decide) ?_
        exact W.iret hx hb hr (fun t ht _ => qh h ht hP hS) hS.2.2 d_LW_door_24
      · rw [if_neg zc] at h
        by_cases zc : r.1 = 3
        · rw [if_pos zc] at h
          refine hl_catch (k := r.1) (σ' := r.2.2) (As := [.int a1, .int a2, .int a3, .int a4]) (rest := [.int 0, .ref aO]) ⟨hx, hb, hml.trans hl.1.symm, hown, hts⟩ (c_PM_door l hfl b0 G ad cI cZ hD.1 hD.2.1 σ a1 a2 a3 a4 r g_r) (cwV 4 hts (wg_V w_503 w_504 w_505 w_1 w_506) rfl rfl rfl (by decide +kernel) ⟨Nat.le_of_ble_eq_true rfl, Nat.le_of_ble_eq_true rfl⟩) (fun a st o t q9 => ⟨q9.1, q9.2.1, q9.2.2.2 (by show r.1 ≠ 0; exact z0)⟩) hD hP hE hS z0 rfl (Nat.le_of_ble_eq_true rfl) d_LW_door_9 ⟨Nat.le_of_ble_eq_true rfl, Nat.le_of_ble_eq_true rfl⟩ (name := "java/lang/IllegalStateException") [⟨0, 14, 17, 13⟩, ⟨0, 14, 21, 15⟩] ⟨0, 14, 25, 17⟩ [] (htab.trans rfl) (List.forall_mem_cons.mpr ⟨Or.inr ⟨by decide, "java/util/NoSuchElementException", hts _ w_207, by rw [zc]; exact hE.2.2.2 _ (List.mem_of_getElem? (i := 1) rfl)⟩, (List.forall_mem_cons.mpr ⟨Or.inr ⟨by decide, "java/lang/IllegalArgumentException", hts _ w_208, by rw [zc]; exact hE.2.2.2 _ (List.mem_of_getElem? (i := 2) rfl)⟩, fun _ h9 => nomatch h9⟩)⟩) (by decide) (by decide) (hts _ w_209) (by rw [zc]; exact va_Nw.use rfl (hE.2.1.2.2.2.1 _ (List.mem_of_getElem? (i := 2) rfl))) (fun q9 H locs hP hS => ?_)
          refine lv_astore (lv' := [(6, .ref q9), (0, .ref (ad 0)), (1, .int a1), (2, .int a2), (3, .int a3), (4, .int a4), (5, .ref aO)]) hx hb d_LW_door_25 hl (by decide) rfl (fun ls hl => ?_)
          refine lv_iconst (v := 3) hx hb d_LW_door_27 (by decide) ?_
          refine W.widen (k := 1) (n := 6) (by decide) (by decide) ?_
          exact W.iret hx hb hr (fun t ht _ => qh h ht hP hS) hS.2.2 d_LW_door_28
        · rw [if_neg zc] at h
          exact absurd h (by intro z9; cases z9)
abbrev wl_LW_passes : List Cond := .codeWith ⟨"PlaceMovesLaw", "passes", "(LPlaceMoves;II[J)I"⟩ method_15_code 5 (some FieldType.int) [(0, 17, 20, 13)] :: WG
set_option maxHeartbeats 4000000 in
set_option maxRecDepth 100000 in
theorem c_LW_passes (l : Launch) (hfl : l.flags = pinnedFlags ++ [noTraceFlag]) (b0 : Nat) (G : va_G) (ad : Nat → Nat) (cI cZ cJ : ClassId) (aO : Nat) (hD : DH b0 ad aO) (σ : Sg) (y : Nat → Int64) (a1 : Int32) (a2 : Int32) (out : Int32 × (Nat → Int64) × Sg) (h : h_passes σ y a1 a2 = some out) : Met l ⟨"PlaceMovesLaw", "passes", "(LPlaceMoves;II[J)I"⟩ wl_LW_passes ({ frames := 9, cells := 1, slots := 6, locals := 154 } : Room) (PcH b0 G ad cI cZ cJ aO σ y [.ref (ad 0), .int a1, .int a2, .ref aO]) (QH G ad cI cZ cJ aO out) 1 6 (AH ad aO) := by
  refine va_MetW (cc := method_15_code) (maxL := 5) (ret := (some FieldType.int)) (hh := [(0, 17, 20, 13)]) (by decide) rfl ?_
  intro p e s m args below meth c s₁ B hml hv
  obtain ⟨rfl, hP, hE⟩ := hv
  have hx := B.exec
  have hb := B.bytes
  have hr := B.returns
  have hts0 := atoms_spec (ws := wl_LW_passes) B.pre
  have hts : ∀ w ∈ WG, w.before _ s = true := fun w hw => hts0 w (List.mem_cons_of_mem _ hw)
  have htab := tx_table B (hts0 _ List.mem_cons_self)
  have hown : s.vm.findClass "PlaceMovesLaw" = some m.cls := findClass_of_methodNamed B.named
  have hlocks := B.notSynchronized
  have hS : va_S (AH ad aO) s.heap s.heap [] := va_S.rf
  have hl := lv_entry ([.ref (ad 0), .int a1, .int a2, .ref aO]) (n := 5) (Nat.le_of_ble_eq_true rfl)
  rw [lg_entry_eq]
  generalize (lg_sl ([.ref (ad 0), .int a1, .int a2, .ref aO]) ++ List.replicate (5 - (lg_sl ([.ref (ad 0), .int a1, .int a2, .ref aO])).length) Slot.unset).toArray = ls at hl ⊢
  have hl : lv_has ls 5 [(0, .ref (ad 0)), (1, .int a1), (2, .int a2), (3, .ref aO)] := hl
  unfold h_passes at h
  obtain ⟨r, g_r, h⟩ := ob_some h
  refine lv_aload_n hx hb d_LW_passes_0 rfl (lv_at hl 3 rfl) ?_
  refine lv_iconst (v := 0) hx hb d_LW_passes_1 (by decide) ?_
  refine lv_aload_n hx hb d_LW_passes_2 rfl (lv_at hl 0 rfl) ?_
  refine lv_iload_n hx hb d_LW_passes_3 rfl (lv_at hl 1 rfl) ?_
  refine lv_iload_n hx hb d_LW_passes_4 rfl (lv_at hl 2 rfl) ?_
  by_cases z0 : r.1 = 0
  · rw [if_pos z0] at h
    refine hl_ret (As := [.int a1, .int a2]) (rest := [.int 0, .ref aO]) ⟨hx, hb, hml.trans hl.1.symm, hown, hts⟩ (tx_asX (c_PM_passes l hfl b0 G ad cI cZ σ a1 a2 r g_r)) (cwV 2 hts (wg_V w_517 w_518 w_519 w_1 w_520) rfl rfl rfl (by decide +kernel) ⟨Nat.le_of_ble_eq_true rfl, Nat.le_of_ble_eq_true rfl⟩) hD hP hE hS z0 rfl (Nat.le_of_ble_eq_true rfl) d_LW_passes_5 ⟨Nat.zero_le _, Nat.zero_le _⟩ (fun H locs hP hS => ?_)
    refine lv_if_eq (tgt := 15) hx hb d_LW_passes_8 (by decide) (fun c1 => ?_) (fun c1 => ?_)
    · rw [if_pos c1] at h
      refine lv_lconst (v := 0) hx hb d_LW_passes_15 (by decide) ?_
      refine va_last (D := G) hx hb hE.2.2.1 hP hD.d hS 32 0 rfl rfl (inB_in (by decide)) d_LW_passes_16 (fun H locs hP hD9 hS => ?_)
      have hP : va_P G clX (wH ad cI cZ cJ aO σ (vp_updL y (Int32.toNatClampNeg 0) 0)) H := hP
      refine lv_goto (tgt := 24) hx hb d_LW_passes_17 (by decide) ?_
      refine lv_iconst (v := 0) hx hb d_LW_passes_24 (by decide) ?_
      refine W.widen (k := 1) (n := 6) (by decide) (by decide) ?_
      exact W.iret hx hb hr (fun t ht _ => qh h ht hP hS) hS.2.2 d_LW_passes_25
    · rw [if_neg c1] at h
      refine lv_lconst (v := 1) hx hb d_LW_passes_11 (by decide) ?_
      refine lv_goto (tgt := 16) hx hb d_LW_passes_12 (by decide) ?_
      refine va_last (D := G) hx hb hE.2.2.1 hP hD.d hS 32 0 rfl rfl (inB_in (by decide)) d_LW_passes_16 (fun H locs hP hD9 hS => ?_)
      have hP : va_P G clX (wH ad cI cZ cJ aO σ (vp_updL y (Int32.toNatClampNeg 0) 1)) H := hP
      refine lv_goto (tgt := 24) hx hb d_LW_passes_17 (by decide) ?_
      refine lv_iconst (v := 0) hx hb d_LW_passes_24 (by decide) ?_
      refine W.widen (k := 1) (n := 6) (by decide) (by decide) ?_
      exact W.iret hx hb hr (fun t ht _ => qh h ht hP hS) hS.2.2 d_LW_passes_25
  · rw [if_neg z0] at h
    by_cases zc : r.1 = 1
    · rw [if_pos zc] at h
      refine hl_catch (k := r.1) (σ' := σ) (As := [.int a1, .int a2]) (rest := [.int 0, .ref aO]) ⟨hx, hb, hml.trans hl.1.symm, hown, hts⟩ (tx_asX (c_PM_passes l hfl b0 G ad cI cZ σ a1 a2 r g_r)) (cwV 2 hts (wg_V w_517 w_518 w_519 w_1 w_520) rfl rfl rfl (by decide +kernel) ⟨Nat.le_of_ble_eq_true rfl, Nat.le_of_ble_eq_true rfl⟩) (fun a st o t q9 => ⟨q9.1, q9.2.1, q9.2.2.2 (by show r.1 ≠ 0; exact z0)⟩) hD hP hE hS z0 rfl (Nat.le_of_ble_eq_true rfl) d_LW_passes_5 ⟨Nat.le_of_ble_eq_true rfl, Nat.le_of_ble_eq_true rfl⟩ (name := "java/util/NoSuchElementException") [] ⟨0, 17, 20, 13⟩ [] (htab.trans rfl) (fun _ h9 => nomatch h9) (by decide) (by decide) (hts _ w_207) (by rw [zc]; exact va_Nw.use rfl (hE.2.1.2.2.2.1 _ (List.mem_of_getElem? (i := 0) rfl))) (fun q9 H locs hP hS => ?_)
      refine lv_astore (lv' := [(4, .ref q9), (0, .ref (ad 0)), (1, .int a1), (2, .int a2), (3, .ref aO)]) hx hb d_LW_passes_20 hl (by decide) rfl (fun ls hl => ?_)
      refine lv_iconst (v := 1) hx hb d_LW_passes_22 (by decide) ?_
      refine W.widen (k := 1) (n := 6) (by decide) (by decide) ?_
      exact W.iret hx hb hr (fun t ht _ => qh h ht hP hS) hS.2.2 d_LW_passes_23
    · rw [if_neg zc] at h
      exact absurd h (by intro z9; cases z9)
abbrev wl_LW_way : List Cond := .codeWith ⟨"PlaceMovesLaw", "way", "(LPlaceMoves;II[J)I"⟩ method_16_code 5 (some FieldType.int) [(0, 10, 13, 13)] :: WG
set_option maxHeartbeats 4000000 in
set_option maxRecDepth 100000 in
theorem c_LW_way (l : Launch) (hfl : l.flags = pinnedFlags ++ [noTraceFlag]) (b0 : Nat) (G : va_G) (ad : Nat → Nat) (cI cZ cJ : ClassId) (aO : Nat) (hD : DH b0 ad aO) (σ : Sg) (y : Nat → Int64) (a1 : Int32) (a2 : Int32) (out : Int32 × (Nat → Int64) × Sg) (h : h_way σ y a1 a2 = some out) : Met l ⟨"PlaceMovesLaw", "way", "(LPlaceMoves;II[J)I"⟩ wl_LW_way ({ frames := 9, cells := 1, slots := 6, locals := 155 } : Room) (PcH b0 G ad cI cZ cJ aO σ y [.ref (ad 0), .int a1, .int a2, .ref aO]) (QH G ad cI cZ cJ aO out) 1 6 (AH ad aO) := by
  refine va_MetW (cc := method_16_code) (maxL := 5) (ret := (some FieldType.int)) (hh := [(0, 10, 13, 13)]) (by decide) rfl ?_
  intro p e s m args below meth c s₁ B hml hv
  obtain ⟨rfl, hP, hE⟩ := hv
  have hx := B.exec
  have hb := B.bytes
  have hr := B.returns
  have hts0 := atoms_spec (ws := wl_LW_way) B.pre
  have hts : ∀ w ∈ WG, w.before _ s = true := fun w hw => hts0 w (List.mem_cons_of_mem _ hw)
  have htab := tx_table B (hts0 _ List.mem_cons_self)
  have hown : s.vm.findClass "PlaceMovesLaw" = some m.cls := findClass_of_methodNamed B.named
  have hlocks := B.notSynchronized
  have hS : va_S (AH ad aO) s.heap s.heap [] := va_S.rf
  have hl := lv_entry ([.ref (ad 0), .int a1, .int a2, .ref aO]) (n := 5) (Nat.le_of_ble_eq_true rfl)
  rw [lg_entry_eq]
  generalize (lg_sl ([.ref (ad 0), .int a1, .int a2, .ref aO]) ++ List.replicate (5 - (lg_sl ([.ref (ad 0), .int a1, .int a2, .ref aO])).length) Slot.unset).toArray = ls at hl ⊢
  have hl : lv_has ls 5 [(0, .ref (ad 0)), (1, .int a1), (2, .int a2), (3, .ref aO)] := hl
  unfold h_way at h
  obtain ⟨r, g_r, h⟩ := ob_some h
  refine lv_aload_n hx hb d_LW_way_0 rfl (lv_at hl 3 rfl) ?_
  refine lv_iconst (v := 0) hx hb d_LW_way_1 (by decide) ?_
  refine lv_aload_n hx hb d_LW_way_2 rfl (lv_at hl 0 rfl) ?_
  refine lv_iload_n hx hb d_LW_way_3 rfl (lv_at hl 1 rfl) ?_
  refine lv_iload_n hx hb d_LW_way_4 rfl (lv_at hl 2 rfl) ?_
  by_cases z0 : r.1 = 0
  · rw [if_pos z0] at h
    refine hl_ret (As := [.int a1, .int a2]) (rest := [.int 0, .ref aO]) ⟨hx, hb, hml.trans hl.1.symm, hown, hts⟩ (tx_asX (c_PM_way l hfl b0 G ad cI cZ σ a1 a2 r g_r)) (cwV 2 hts (wg_V w_536 w_537 w_538 w_1 w_539) rfl rfl rfl (by decide +kernel) ⟨Nat.le_of_ble_eq_true rfl, Nat.le_of_ble_eq_true rfl⟩) hD hP hE hS z0 rfl (Nat.le_of_ble_eq_true rfl) d_LW_way_5 ⟨Nat.zero_le _, Nat.zero_le _⟩ (fun H locs hP hS => ?_)
    refine lv_i2l (v := Int32.toInt64 r.2) hx hb d_LW_way_8 rfl ?_
    refine va_last (D := G) hx hb hE.2.2.1 hP hD.d hS 32 0 rfl rfl (inB_in (by decide)) d_LW_way_9 (fun H locs hP hD9 hS => ?_)
    have hP : va_P G clX (wH ad cI cZ cJ aO σ (vp_updL y (Int32.toNatClampNeg 0) (Int32.toInt64 r.2))) H := hP
    refine lv_goto (tgt := 17) hx hb d_LW_way_10 (by decide) ?_
    refine lv_iconst (v := 0) hx hb d_LW_way_17 (by decide) ?_
    refine W.widen (k := 1) (n := 6) (by decide) (by decide) ?_
    exact W.iret hx hb hr (fun t ht _ => qh h ht hP hS) hS.2.2 d_LW_way_18
  · rw [if_neg z0] at h
    by_cases zc : r.1 = 1
    · rw [if_pos zc] at h
      refine hl_catch (k := r.1) (σ' := σ) (As := [.int a1, .int a2]) (rest := [.int 0, .ref aO]) ⟨hx, hb, hml.trans hl.1.symm, hown, hts⟩ (tx_asX (c_PM_way l hfl b0 G ad cI cZ σ a1 a2 r g_r)) (cwV 2 hts (wg_V w_536 w_537 w_538 w_1 w_539) rfl rfl rfl (by decide +kernel) ⟨Nat.le_of_ble_eq_true rfl, Nat.le_of_ble_eq_true rfl⟩) (fun a st o t q9 => ⟨q9.1, q9.2.1, q9.2.2.2 (by show r.1 ≠ 0; exact z0)⟩) hD hP hE hS z0 rfl (Nat.le_of_ble_eq_true rfl) d_LW_way_5 ⟨Nat.le_of_ble_eq_true rfl, Nat.le_of_ble_eq_true rfl⟩ (name := "java/util/NoSuchElementException") [] ⟨0, 10, 13, 13⟩ [] (htab.trans rfl) (fun _ h9 => nomatch h9) (by decide) (by decide) (hts _ w_207) (by rw [zc]; exact va_Nw.use rfl (hE.2.1.2.2.2.1 _ (List.mem_of_getElem? (i := 0) rfl))) (fun q9 H locs hP hS => ?_)
      refine lv_astore (lv' := [(4, .ref q9), (0, .ref (ad 0)), (1, .int a1), (2, .int a2), (3, .ref aO)]) hx hb d_LW_way_13 hl (by decide) rfl (fun ls hl => ?_)
      refine lv_iconst (v := 1) hx hb d_LW_way_15 (by decide) ?_
      refine W.widen (k := 1) (n := 6) (by decide) (by decide) ?_
      exact W.iret hx hb hr (fun t ht _ => qh h ht hP hS) hS.2.2 d_LW_way_16
    · rw [if_neg zc] at h
      exact absurd h (by intro z9; cases z9)
abbrev wl_LW_planned : List Cond := .codeWith ⟨"PlaceMovesLaw", "planned", "(LPlaceMoves;IIII[J)I"⟩ method_17_code 7 (some FieldType.int) [(0, 14, 17, 13), (0, 14, 21, 15), (0, 14, 25, 17)] :: WG
set_option maxHeartbeats 4000000 in
set_option maxRecDepth 100000 in
theorem c_LW_planned (l : Launch) (hfl : l.flags = pinnedFlags ++ [noTraceFlag]) (b0 : Nat) (G : va_G) (ad : Nat → Nat) (cI cZ cJ : ClassId) (aO : Nat) (hD : DH b0 ad aO) (σ : Sg) (y : Nat → Int64) (a1 : Int32) (a2 : Int32) (a3 : Int32) (a4 : Int32) (out : Int32 × (Nat → Int64) × Sg) (h : h_planned σ y a1 a2 a3 a4 = some out) : Met l ⟨"PlaceMovesLaw", "planned", "(LPlaceMoves;IIII[J)I"⟩ wl_LW_planned ({ frames := 9, cells := 1, slots := 6, locals := 164 } : Room) (PcH b0 G ad cI cZ cJ aO σ y [.ref (ad 0), .int a1, .int a2, .int a3, .int a4, .ref aO]) (QH G ad cI cZ cJ aO out) 1 6 (AH ad aO) := by
  refine va_MetW (cc := method_17_code) (maxL := 7) (ret := (some FieldType.int)) (hh := [(0, 14, 17, 13), (0, 14, 21, 15), (0, 14, 25, 17)]) (by decide) rfl ?_
  intro p e s m args below meth c s₁ B hml hv
  obtain ⟨rfl, hP, hE⟩ := hv
  have hx := B.exec
  have hb := B.bytes
  have hr := B.returns
  have hts0 := atoms_spec (ws := wl_LW_planned) B.pre
  have hts : ∀ w ∈ WG, w.before _ s = true := fun w hw => hts0 w (List.mem_cons_of_mem _ hw)
  have htab := tx_table B (hts0 _ List.mem_cons_self)
  have hown : s.vm.findClass "PlaceMovesLaw" = some m.cls := findClass_of_methodNamed B.named
  have hlocks := B.notSynchronized
  have hS : va_S (AH ad aO) s.heap s.heap [] := va_S.rf
  have hl := lv_entry ([.ref (ad 0), .int a1, .int a2, .int a3, .int a4, .ref aO]) (n := 7) (Nat.le_of_ble_eq_true rfl)
  rw [lg_entry_eq]
  generalize (lg_sl ([.ref (ad 0), .int a1, .int a2, .int a3, .int a4, .ref aO]) ++ List.replicate (7 - (lg_sl ([.ref (ad 0), .int a1, .int a2, .int a3, .int a4, .ref aO])).length) Slot.unset).toArray = ls at hl ⊢
  have hl : lv_has ls 7 [(0, .ref (ad 0)), (1, .int a1), (2, .int a2), (3, .int a3), (4, .int a4), (5, .ref aO)] := hl
  unfold h_planned at h
  obtain ⟨r, g_r, h⟩ := ob_some h
  refine lv_aload hx hb d_LW_planned_0 (lv_at hl 5 rfl) ?_
  refine lv_iconst (v := 0) hx hb d_LW_planned_2 (by decide) ?_
  refine lv_aload_n hx hb d_LW_planned_3 rfl (lv_at hl 0 rfl) ?_
  refine lv_iload_n hx hb d_LW_planned_4 rfl (lv_at hl 1 rfl) ?_
  refine lv_iload_n hx hb d_LW_planned_5 rfl (lv_at hl 2 rfl) ?_
  refine lv_iload_n hx hb d_LW_planned_6 rfl (lv_at hl 3 rfl) ?_
  refine lv_iload hx hb d_LW_planned_7 (lv_at hl 4 rfl) ?_
  by_cases z0 : r.1 = 0
  · rw [if_pos z0] at h
    refine hl_ret (As := [.int a1, .int a2, .int a3, .int a4]) (rest := [.int 0, .ref aO]) ⟨hx, hb, hml.trans hl.1.symm, hown, hts⟩ (c_PM_planned l hfl b0 G ad cI cZ hD.1 hD.2.1 σ a1 a2 a3 a4 r g_r) (cwV 4 hts (wg_V w_555 w_556 w_557 w_1 w_558) rfl rfl rfl (by decide +kernel) ⟨Nat.le_of_ble_eq_true rfl, Nat.le_of_ble_eq_true rfl⟩) hD hP hE hS z0 rfl (Nat.le_of_ble_eq_true rfl) d_LW_planned_9 ⟨Nat.zero_le _, Nat.zero_le _⟩ (fun H locs hP hS => ?_)
    refine lv_i2l (v := Int32.toInt64 r.2.1) hx hb d_LW_planned_12 rfl ?_
    refine va_last (D := G) hx hb hE.2.2.1 hP hD.d hS 32 0 rfl rfl (inB_in (by decide)) d_LW_planned_13 (fun H locs hP hD9 hS => ?_)
    have hP : va_P G clX (wH ad cI cZ cJ aO r.2.2 (vp_updL y (Int32.toNatClampNeg 0) (Int32.toInt64 r.2.1))) H := hP
    refine lv_goto (tgt := 29) hx hb d_LW_planned_14 (by decide) ?_
    refine lv_iconst (v := 0) hx hb d_LW_planned_29 (by decide) ?_
    refine W.widen (k := 1) (n := 6) (by decide) (by decide) ?_
    exact W.iret hx hb hr (fun t ht _ => qh h ht hP hS) hS.2.2 d_LW_planned_30
  · rw [if_neg z0] at h
    by_cases zc : r.1 = 1
    · rw [if_pos zc] at h
      refine hl_catch (k := r.1) (σ' := r.2.2) (As := [.int a1, .int a2, .int a3, .int a4]) (rest := [.int 0, .ref aO]) ⟨hx, hb, hml.trans hl.1.symm, hown, hts⟩ (c_PM_planned l hfl b0 G ad cI cZ hD.1 hD.2.1 σ a1 a2 a3 a4 r g_r) (cwV 4 hts (wg_V w_555 w_556 w_557 w_1 w_558) rfl rfl rfl (by decide +kernel) ⟨Nat.le_of_ble_eq_true rfl, Nat.le_of_ble_eq_true rfl⟩) (fun a st o t q9 => ⟨q9.1, q9.2.1, q9.2.2.2 (by show r.1 ≠ 0; exact z0)⟩) hD hP hE hS z0 rfl (Nat.le_of_ble_eq_true rfl) d_LW_planned_9 ⟨Nat.le_of_ble_eq_true rfl, Nat.le_of_ble_eq_true rfl⟩ (name := "java/util/NoSuchElementException") [] ⟨0, 14, 17, 13⟩ [⟨0, 14, 21, 15⟩, ⟨0, 14, 25, 17⟩] (htab.trans rfl) (fun _ h9 => nomatch h9) (by decide) (by decide) (hts _ w_207) (by rw [zc]; exact va_Nw.use rfl (hE.2.1.2.2.2.1 _ (List.mem_of_getElem? (i := 0) rfl))) (fun q9 H locs hP hS => ?_)
      refine lv_astore (lv' := [(6, .ref q9), (0, .ref (ad 0)), (1, .int a1), (2, .int a2), (3, .int a3), (4, .int a4), (5, .ref aO)]) hx hb d_LW_planned_17 hl (by decide) rfl (fun ls hl => ?_)
      refine lv_iconst (v := 1) hx hb d_LW_planned_19 (by decide) ?_
      refine W.widen (k := 1) (n := 6) (by decide) (by decide) ?_
      exact W.iret hx hb hr (fun t ht _ => qh h ht hP hS) hS.2.2 d_LW_planned_20
    · rw [if_neg zc] at h
      by_cases zc : r.1 = 2
      · rw [if_pos zc] at h
        refine hl_catch (k := r.1) (σ' := r.2.2) (As := [.int a1, .int a2, .int a3, .int a4]) (rest := [.int 0, .ref aO]) ⟨hx, hb, hml.trans hl.1.symm, hown, hts⟩ (c_PM_planned l hfl b0 G ad cI cZ hD.1 hD.2.1 σ a1 a2 a3 a4 r g_r) (cwV 4 hts (wg_V w_555 w_556 w_557 w_1 w_558) rfl rfl rfl (by decide +kernel) ⟨Nat.le_of_ble_eq_true rfl, Nat.le_of_ble_eq_true rfl⟩) (fun a st o t q9 => ⟨q9.1, q9.2.1, q9.2.2.2 (by show r.1 ≠ 0; exact z0)⟩) hD hP hE hS z0 rfl (Nat.le_of_ble_eq_true rfl) d_LW_planned_9 ⟨Nat.le_of_ble_eq_true rfl, Nat.le_of_ble_eq_true rfl⟩ (name := "java/lang/IllegalArgumentException") [⟨0, 14, 17, 13⟩] ⟨0, 14, 21, 15⟩ [⟨0, 14, 25, 17⟩] (htab.trans rfl) (List.forall_mem_cons.mpr ⟨Or.inr ⟨by decide, "java/util/NoSuchElementException", hts _ w_207, by rw [zc]; exact hE.2.2.2 _ (List.mem_of_getElem? (i := 0) rfl)⟩, fun _ h9 => nomatch h9⟩) (by decide) (by decide) (hts _ w_208) (by rw [zc]; exact va_Nw.use rfl (hE.2.1.2.2.2.1 _ (List.mem_of_getElem? (i := 1) rfl))) (fun q9 H locs hP hS => ?_)
        refine lv_astore (lv' := [(6, .ref q9), (0, .ref (ad 0)), (1, .int a1), (2, .int a2), (3, .int a3), (4, .int a4), (5, .ref aO)]) hx hb d_LW_planned_21 hl (by decide) rfl (fun ls hl => ?_)
        refine lv_iconst (v := 2) hx hb d_LW_planned_23 (by decide) ?_
        refine W.widen (k := 1) (n := 6) (by decide) (by decide) ?_
        exact W.iret hx hb hr (fun t ht _ => qh h ht hP hS) hS.2.2 d_LW_planned_24
      · rw [if_neg zc] at h
        by_cases zc : r.1 = 3
        · rw [if_pos zc] at h
          refine hl_catch (k := r.1) (σ' := r.2.2) (As := [.int a1, .int a2, .int a3, .int a4]) (rest := [.int 0, .ref aO]) ⟨hx, hb, hml.trans hl.1.symm, hown, hts⟩ (c_PM_planned l hfl b0 G ad cI cZ hD.1 hD.2.1 σ a1 a2 a3 a4 r g_r) (cwV 4 hts (wg_V w_555 w_556 w_557 w_1 w_558) rfl rfl rfl (by decide +kernel) ⟨Nat.le_of_ble_eq_true rfl, Nat.le_of_ble_eq_true rfl⟩) (fun a st o t q9 => ⟨q9.1, q9.2.1, q9.2.2.2 (by show r.1 ≠ 0; exact z0)⟩) hD hP hE hS z0 rfl (Nat.le_of_ble_eq_true rfl) d_LW_planned_9 ⟨Nat.le_of_ble_eq_true rfl, Nat.le_of_ble_eq_true rfl⟩ (name := "java/lang/IllegalStateException") [⟨0, 14, 17, 13⟩, ⟨0, 14, 21, 15⟩] ⟨0, 14, 25, 17⟩ [] (htab.trans rfl) (List.forall_mem_cons.mpr ⟨Or.inr ⟨by decide, "java/util/NoSuchElementException", hts _ w_207, by rw [zc]; exact hE.2.2.2 _ (List.mem_of_getElem? (i := 1) rfl)⟩, (List.forall_mem_cons.mpr ⟨Or.inr ⟨by decide, "java/lang/IllegalArgumentException", hts _ w_208, by rw [zc]; exact hE.2.2.2 _ (List.mem_of_getElem? (i := 2) rfl)⟩, fun _ h9 => nomatch h9⟩)⟩) (by decide) (by decide) (hts _ w_209) (by rw [zc]; exact va_Nw.use rfl (hE.2.1.2.2.2.1 _ (List.mem_of_getElem? (i := 2) rfl))) (fun q9 H locs hP hS => ?_)
          refine lv_astore (lv' := [(6, .ref q9), (0, .ref (ad 0)), (1, .int a1), (2, .int a2), (3, .int a3), (4, .int a4), (5, .ref aO)]) hx hb d_LW_planned_25 hl (by decide) rfl (fun ls hl => ?_)
          refine lv_iconst (v := 3) hx hb d_LW_planned_27 (by decide) ?_
          refine W.widen (k := 1) (n := 6) (by decide) (by decide) ?_
          exact W.iret hx hb hr (fun t ht _ => qh h ht hP hS) hS.2.2 d_LW_planned_28
        · rw [if_neg zc] at h
          exact absurd h (by intro z9; cases z9)
abbrev wl_LW_used : List Cond := .codeWith ⟨"PlaceMovesLaw", "used", "(LPlaceMoves;II[J)I"⟩ method_18_code 5 (some FieldType.int) [(0, 10, 13, 13)] :: WG
set_option maxHeartbeats 4000000 in
set_option maxRecDepth 100000 in
theorem c_LW_used (l : Launch) (hfl : l.flags = pinnedFlags ++ [noTraceFlag]) (b0 : Nat) (G : va_G) (ad : Nat → Nat) (cI cZ cJ : ClassId) (aO : Nat) (hD : DH b0 ad aO) (σ : Sg) (y : Nat → Int64) (a1 : Int32) (a2 : Int32) (out : Int32 × (Nat → Int64) × Sg) (h : h_used σ y a1 a2 = some out) : Met l ⟨"PlaceMovesLaw", "used", "(LPlaceMoves;II[J)I"⟩ wl_LW_used ({ frames := 9, cells := 1, slots := 6, locals := 154 } : Room) (PcH b0 G ad cI cZ cJ aO σ y [.ref (ad 0), .int a1, .int a2, .ref aO]) (QH G ad cI cZ cJ aO out) 1 6 (AH ad aO) := by
  refine va_MetW (cc := method_18_code) (maxL := 5) (ret := (some FieldType.int)) (hh := [(0, 10, 13, 13)]) (by decide) rfl ?_
  intro p e s m args below meth c s₁ B hml hv
  obtain ⟨rfl, hP, hE⟩ := hv
  have hx := B.exec
  have hb := B.bytes
  have hr := B.returns
  have hts0 := atoms_spec (ws := wl_LW_used) B.pre
  have hts : ∀ w ∈ WG, w.before _ s = true := fun w hw => hts0 w (List.mem_cons_of_mem _ hw)
  have htab := tx_table B (hts0 _ List.mem_cons_self)
  have hown : s.vm.findClass "PlaceMovesLaw" = some m.cls := findClass_of_methodNamed B.named
  have hlocks := B.notSynchronized
  have hS : va_S (AH ad aO) s.heap s.heap [] := va_S.rf
  have hl := lv_entry ([.ref (ad 0), .int a1, .int a2, .ref aO]) (n := 5) (Nat.le_of_ble_eq_true rfl)
  rw [lg_entry_eq]
  generalize (lg_sl ([.ref (ad 0), .int a1, .int a2, .ref aO]) ++ List.replicate (5 - (lg_sl ([.ref (ad 0), .int a1, .int a2, .ref aO])).length) Slot.unset).toArray = ls at hl ⊢
  have hl : lv_has ls 5 [(0, .ref (ad 0)), (1, .int a1), (2, .int a2), (3, .ref aO)] := hl
  unfold h_used at h
  obtain ⟨r, g_r, h⟩ := ob_some h
  refine lv_aload_n hx hb d_LW_used_0 rfl (lv_at hl 3 rfl) ?_
  refine lv_iconst (v := 0) hx hb d_LW_used_1 (by decide) ?_
  refine lv_aload_n hx hb d_LW_used_2 rfl (lv_at hl 0 rfl) ?_
  refine lv_iload_n hx hb d_LW_used_3 rfl (lv_at hl 1 rfl) ?_
  refine lv_iload_n hx hb d_LW_used_4 rfl (lv_at hl 2 rfl) ?_
  by_cases z0 : r.1 = 0
  · rw [if_pos z0] at h
    refine hl_ret (As := [.int a1, .int a2]) (rest := [.int 0, .ref aO]) ⟨hx, hb, hml.trans hl.1.symm, hown, hts⟩ (c_PM_used l hfl b0 G ad cI cZ hD.1 hD.2.1 σ a1 a2 r g_r) (cwV 2 hts (wg_V w_570 w_571 w_572 w_1 w_573) rfl rfl rfl (by decide +kernel) ⟨Nat.le_of_ble_eq_true rfl, Nat.le_of_ble_eq_true rfl⟩) hD hP hE hS z0 rfl (Nat.le_of_ble_eq_true rfl) d_LW_used_5 ⟨Nat.zero_le _, Nat.zero_le _⟩ (fun H locs hP hS => ?_)
    refine lv_i2l (v := Int32.toInt64 r.2.1) hx hb d_LW_used_8 rfl ?_
    refine va_last (D := G) hx hb hE.2.2.1 hP hD.d hS 32 0 rfl rfl (inB_in (by decide)) d_LW_used_9 (fun H locs hP hD9 hS => ?_)
    have hP : va_P G clX (wH ad cI cZ cJ aO r.2.2 (vp_updL y (Int32.toNatClampNeg 0) (Int32.toInt64 r.2.1))) H := hP
    refine lv_goto (tgt := 17) hx hb d_LW_used_10 (by decide) ?_
    refine lv_iconst (v := 0) hx hb d_LW_used_17 (by decide) ?_
    refine W.widen (k := 1) (n := 6) (by decide) (by decide) ?_
    exact W.iret hx hb hr (fun t ht _ => qh h ht hP hS) hS.2.2 d_LW_used_18
  · rw [if_neg z0] at h
    by_cases zc : r.1 = 1
    · rw [if_pos zc] at h
      refine hl_catch (k := r.1) (σ' := r.2.2) (As := [.int a1, .int a2]) (rest := [.int 0, .ref aO]) ⟨hx, hb, hml.trans hl.1.symm, hown, hts⟩ (c_PM_used l hfl b0 G ad cI cZ hD.1 hD.2.1 σ a1 a2 r g_r) (cwV 2 hts (wg_V w_570 w_571 w_572 w_1 w_573) rfl rfl rfl (by decide +kernel) ⟨Nat.le_of_ble_eq_true rfl, Nat.le_of_ble_eq_true rfl⟩) (fun a st o t q9 => ⟨q9.1, q9.2.1, q9.2.2.2 (by show r.1 ≠ 0; exact z0)⟩) hD hP hE hS z0 rfl (Nat.le_of_ble_eq_true rfl) d_LW_used_5 ⟨Nat.le_of_ble_eq_true rfl, Nat.le_of_ble_eq_true rfl⟩ (name := "java/util/NoSuchElementException") [] ⟨0, 10, 13, 13⟩ [] (htab.trans rfl) (fun _ h9 => nomatch h9) (by decide) (by decide) (hts _ w_207) (by rw [zc]; exact va_Nw.use rfl (hE.2.1.2.2.2.1 _ (List.mem_of_getElem? (i := 0) rfl))) (fun q9 H locs hP hS => ?_)
      refine lv_astore (lv' := [(4, .ref q9), (0, .ref (ad 0)), (1, .int a1), (2, .int a2), (3, .ref aO)]) hx hb d_LW_used_13 hl (by decide) rfl (fun ls hl => ?_)
      refine lv_iconst (v := 1) hx hb d_LW_used_15 (by decide) ?_
      refine W.widen (k := 1) (n := 6) (by decide) (by decide) ?_
      exact W.iret hx hb hr (fun t ht _ => qh h ht hP hS) hS.2.2 d_LW_used_16
    · rw [if_neg zc] at h
      exact absurd h (by intro z9; cases z9)
abbrev wl_LW_quiet : List Cond := .codeWith ⟨"PlaceMovesLaw", "quiet", "(LPlaceMoves;III)I"⟩ method_19_code 5 (some FieldType.int) [(0, 7, 10, 13), (0, 7, 14, 15), (0, 7, 18, 17)] :: WG
set_option maxHeartbeats 4000000 in
set_option maxRecDepth 100000 in
theorem c_LW_quiet (l : Launch) (hfl : l.flags = pinnedFlags ++ [noTraceFlag]) (b0 : Nat) (G : va_G) (ad : Nat → Nat) (cI cZ cJ : ClassId) (aO : Nat) (hD : DH b0 ad aO) (σ : Sg) (y : Nat → Int64) (a1 : Int32) (a2 : Int32) (a3 : Int32) (out : Int32 × (Nat → Int64) × Sg) (h : h_quiet σ y a1 a2 a3 = some out) : Met l ⟨"PlaceMovesLaw", "quiet", "(LPlaceMoves;III)I"⟩ wl_LW_quiet ({ frames := 9, cells := 1, slots := 6, locals := 155 } : Room) (PcH b0 G ad cI cZ cJ aO σ y [.ref (ad 0), .int a1, .int a2, .int a3]) (QH G ad cI cZ cJ aO out) 1 6 (AH ad aO) := by
  refine va_MetW (cc := method_19_code) (maxL := 5) (ret := (some FieldType.int)) (hh := [(0, 7, 10, 13), (0, 7, 14, 15), (0, 7, 18, 17)]) (by decide) rfl ?_
  intro p e s m args below meth c s₁ B hml hv
  obtain ⟨rfl, hP, hE⟩ := hv
  have hx := B.exec
  have hb := B.bytes
  have hr := B.returns
  have hts0 := atoms_spec (ws := wl_LW_quiet) B.pre
  have hts : ∀ w ∈ WG, w.before _ s = true := fun w hw => hts0 w (List.mem_cons_of_mem _ hw)
  have htab := tx_table B (hts0 _ List.mem_cons_self)
  have hown : s.vm.findClass "PlaceMovesLaw" = some m.cls := findClass_of_methodNamed B.named
  have hlocks := B.notSynchronized
  have hS : va_S (AH ad aO) s.heap s.heap [] := va_S.rf
  have hl := lv_entry ([.ref (ad 0), .int a1, .int a2, .int a3]) (n := 5) (Nat.le_of_ble_eq_true rfl)
  rw [lg_entry_eq]
  generalize (lg_sl ([.ref (ad 0), .int a1, .int a2, .int a3]) ++ List.replicate (5 - (lg_sl ([.ref (ad 0), .int a1, .int a2, .int a3])).length) Slot.unset).toArray = ls at hl ⊢
  have hl : lv_has ls 5 [(0, .ref (ad 0)), (1, .int a1), (2, .int a2), (3, .int a3)] := hl
  unfold h_quiet at h
  obtain ⟨r, g_r, h⟩ := ob_some h
  refine lv_aload_n hx hb d_LW_quiet_0 rfl (lv_at hl 0 rfl) ?_
  refine lv_iload_n hx hb d_LW_quiet_1 rfl (lv_at hl 1 rfl) ?_
  refine lv_iload_n hx hb d_LW_quiet_2 rfl (lv_at hl 2 rfl) ?_
  refine lv_iload_n hx hb d_LW_quiet_3 rfl (lv_at hl 3 rfl) ?_
  by_cases z0 : r.1 = 0
  · rw [if_pos z0] at h
    refine hl_retv (As := [.int a1, .int a2, .int a3]) (rest := []) ⟨hx, hb, hml.trans hl.1.symm, hown, hts⟩ (c_PM_quiet l hfl b0 G ad cI cZ hD.1 hD.2.1 σ a1 a2 a3 r g_r) (cwV 3 hts (wg_V w_577 w_578 w_579 w_1 w_580) rfl rfl rfl (by decide +kernel) ⟨Nat.le_of_ble_eq_true rfl, Nat.le_of_ble_eq_true rfl⟩) hD hP hE hS z0 rfl (Nat.le_of_ble_eq_true rfl) d_LW_quiet_4 ⟨Nat.zero_le _, Nat.zero_le _⟩ (fun H locs hP hS => ?_)
    refine lv_goto (tgt := 22) hx hb d_LW_quiet_7 (by decide) ?_
    refine lv_iconst (v := 0) hx hb d_LW_quiet_22 (by decide) ?_
    refine W.widen (k := 1) (n := 6) (by decide) (by decide) ?_
    exact W.iret hx hb hr (fun t ht _ => qh h ht hP hS) hS.2.2 d_LW_quiet_23
  · rw [if_neg z0] at h
    by_cases zc : r.1 = 1
    · rw [if_pos zc] at h
      refine hl_catch (k := r.1) (σ' := r.2) (As := [.int a1, .int a2, .int a3]) (rest := []) ⟨hx, hb, hml.trans hl.1.symm, hown, hts⟩ (c_PM_quiet l hfl b0 G ad cI cZ hD.1 hD.2.1 σ a1 a2 a3 r g_r) (cwV 3 hts (wg_V w_577 w_578 w_579 w_1 w_580) rfl rfl rfl (by decide +kernel) ⟨Nat.le_of_ble_eq_true rfl, Nat.le_of_ble_eq_true rfl⟩) (fun a st o t q9 => ⟨q9.1, q9.2.1, q9.2.2.2 (by show r.1 ≠ 0; exact z0)⟩) hD hP hE hS z0 rfl (Nat.le_of_ble_eq_true rfl) d_LW_quiet_4 ⟨Nat.le_of_ble_eq_true rfl, Nat.le_of_ble_eq_true rfl⟩ (name := "java/util/NoSuchElementException") [] ⟨0, 7, 10, 13⟩ [⟨0, 7, 14, 15⟩, ⟨0, 7, 18, 17⟩] (htab.trans rfl) (fun _ h9 => nomatch h9) (by decide) (by decide) (hts _ w_207) (by rw [zc]; exact va_Nw.use rfl (hE.2.1.2.2.2.1 _ (List.mem_of_getElem? (i := 0) rfl))) (fun q9 H locs hP hS => ?_)
      refine lv_astore (lv' := [(4, .ref q9), (0, .ref (ad 0)), (1, .int a1), (2, .int a2), (3, .int a3)]) hx hb d_LW_quiet_10 hl (by decide) rfl (fun ls hl => ?_)
      refine lv_iconst (v := 1) hx hb d_LW_quiet_12 (by decide) ?_
      refine W.widen (k := 1) (n := 6) (by decide) (by decide) ?_
      exact W.iret hx hb hr (fun t ht _ => qh h ht hP hS) hS.2.2 d_LW_quiet_13
    · rw [if_neg zc] at h
      by_cases zc : r.1 = 2
      · rw [if_pos zc] at h
        refine hl_catch (k := r.1) (σ' := r.2) (As := [.int a1, .int a2, .int a3]) (rest := []) ⟨hx, hb, hml.trans hl.1.symm, hown, hts⟩ (c_PM_quiet l hfl b0 G ad cI cZ hD.1 hD.2.1 σ a1 a2 a3 r g_r) (cwV 3 hts (wg_V w_577 w_578 w_579 w_1 w_580) rfl rfl rfl (by decide +kernel) ⟨Nat.le_of_ble_eq_true rfl, Nat.le_of_ble_eq_true rfl⟩) (fun a st o t q9 => ⟨q9.1, q9.2.1, q9.2.2.2 (by show r.1 ≠ 0; exact z0)⟩) hD hP hE hS z0 rfl (Nat.le_of_ble_eq_true rfl) d_LW_quiet_4 ⟨Nat.le_of_ble_eq_true rfl, Nat.le_of_ble_eq_true rfl⟩ (name := "java/lang/IllegalArgumentException") [⟨0, 7, 10, 13⟩] ⟨0, 7, 14, 15⟩ [⟨0, 7, 18, 17⟩] (htab.trans rfl) (List.forall_mem_cons.mpr ⟨Or.inr ⟨by decide, "java/util/NoSuchElementException", hts _ w_207, by rw [zc]; exact hE.2.2.2 _ (List.mem_of_getElem? (i := 0) rfl)⟩, fun _ h9 => nomatch h9⟩) (by decide) (by decide) (hts _ w_208) (by rw [zc]; exact va_Nw.use rfl (hE.2.1.2.2.2.1 _ (List.mem_of_getElem? (i := 1) rfl))) (fun q9 H locs hP hS => ?_)
        refine lv_astore (lv' := [(4, .ref q9), (0, .ref (ad 0)), (1, .int a1), (2, .int a2), (3, .int a3)]) hx hb d_LW_quiet_14 hl (by decide) rfl (fun ls hl => ?_)
        refine lv_iconst (v := 2) hx hb d_LW_quiet_16 (by decide) ?_
        refine W.widen (k := 1) (n := 6) (by decide) (by decide) ?_
        exact W.iret hx hb hr (fun t ht _ => qh h ht hP hS) hS.2.2 d_LW_quiet_17
      · rw [if_neg zc] at h
        by_cases zc : r.1 = 3
        · rw [if_pos zc] at h
          refine hl_catch (k := r.1) (σ' := r.2) (As := [.int a1, .int a2, .int a3]) (rest := []) ⟨hx, hb, hml.trans hl.1.symm, hown, hts⟩ (c_PM_quiet l hfl b0 G ad cI cZ hD.1 hD.2.1 σ a1 a2 a3 r g_r) (cwV 3 hts (wg_V w_577 w_578 w_579 w_1 w_580) rfl rfl rfl (by decide +kernel) ⟨Nat.le_of_ble_eq_true rfl, Nat.le_of_ble_eq_true rfl⟩) (fun a st o t q9 => ⟨q9.1, q9.2.1, q9.2.2.2 (by show r.1 ≠ 0; exact z0)⟩) hD hP hE hS z0 rfl (Nat.le_of_ble_eq_true rfl) d_LW_quiet_4 ⟨Nat.le_of_ble_eq_true rfl, Nat.le_of_ble_eq_true rfl⟩ (name := "java/lang/IllegalStateException") [⟨0, 7, 10, 13⟩, ⟨0, 7, 14, 15⟩] ⟨0, 7, 18, 17⟩ [] (htab.trans rfl) (List.forall_mem_cons.mpr ⟨Or.inr ⟨by decide, "java/util/NoSuchElementException", hts _ w_207, by rw [zc]; exact hE.2.2.2 _ (List.mem_of_getElem? (i := 1) rfl)⟩, (List.forall_mem_cons.mpr ⟨Or.inr ⟨by decide, "java/lang/IllegalArgumentException", hts _ w_208, by rw [zc]; exact hE.2.2.2 _ (List.mem_of_getElem? (i := 2) rfl)⟩, fun _ h9 => nomatch h9⟩)⟩) (by decide) (by decide) (hts _ w_209) (by rw [zc]; exact va_Nw.use rfl (hE.2.1.2.2.2.1 _ (List.mem_of_getElem? (i := 2) rfl))) (fun q9 H locs hP hS => ?_)
          refine lv_astore (lv' := [(4, .ref q9), (0, .ref (ad 0)), (1, .int a1), (2, .int a2), (3, .int a3)]) hx hb d_LW_quiet_18 hl (by decide) rfl (fun ls hl => ?_)
          refine lv_iconst (v := 3) hx hb d_LW_quiet_20 (by decide) ?_
          refine W.widen (k := 1) (n := 6) (by decide) (by decide) ?_
          exact W.iret hx hb hr (fun t ht _ => qh h ht hP hS) hS.2.2 d_LW_quiet_21
        · rw [if_neg zc] at h
          exact absurd h (by intro z9; cases z9)
abbrev wl_LW_count : List Cond := .codeWith ⟨"PlaceMovesLaw", "count", "(LPlaceMoves;I[J)I"⟩ method_20_code 4 (some FieldType.int) [(0, 9, 12, 15)] :: WG
set_option maxHeartbeats 4000000 in
set_option maxRecDepth 100000 in
theorem c_LW_count (l : Launch) (hfl : l.flags = pinnedFlags ++ [noTraceFlag]) (b0 : Nat) (G : va_G) (ad : Nat → Nat) (cI cZ cJ : ClassId) (aO : Nat) (hD : DH b0 ad aO) (σ : Sg) (y : Nat → Int64) (a1 : Int32) (out : Int32 × (Nat → Int64) × Sg) (h : h_count σ y a1 = some out) : Met l ⟨"PlaceMovesLaw", "count", "(LPlaceMoves;I[J)I"⟩ wl_LW_count ({ frames := 7, cells := 1, slots := 6, locals := 111 } : Room) (PcH b0 G ad cI cZ cJ aO σ y [.ref (ad 0), .int a1, .ref aO]) (QH G ad cI cZ cJ aO out) 1 6 (AH ad aO) := by
  refine va_MetW (cc := method_20_code) (maxL := 4) (ret := (some FieldType.int)) (hh := [(0, 9, 12, 15)]) (by decide) rfl ?_
  intro p e s m args below meth c s₁ B hml hv
  obtain ⟨rfl, hP, hE⟩ := hv
  have hx := B.exec
  have hb := B.bytes
  have hr := B.returns
  have hts0 := atoms_spec (ws := wl_LW_count) B.pre
  have hts : ∀ w ∈ WG, w.before _ s = true := fun w hw => hts0 w (List.mem_cons_of_mem _ hw)
  have htab := tx_table B (hts0 _ List.mem_cons_self)
  have hown : s.vm.findClass "PlaceMovesLaw" = some m.cls := findClass_of_methodNamed B.named
  have hlocks := B.notSynchronized
  have hS : va_S (AH ad aO) s.heap s.heap [] := va_S.rf
  have hl := lv_entry ([.ref (ad 0), .int a1, .ref aO]) (n := 4) (Nat.le_of_ble_eq_true rfl)
  rw [lg_entry_eq]
  generalize (lg_sl ([.ref (ad 0), .int a1, .ref aO]) ++ List.replicate (4 - (lg_sl ([.ref (ad 0), .int a1, .ref aO])).length) Slot.unset).toArray = ls at hl ⊢
  have hl : lv_has ls 4 [(0, .ref (ad 0)), (1, .int a1), (2, .ref aO)] := hl
  unfold h_count at h
  obtain ⟨r, g_r, h⟩ := ob_some h
  refine lv_aload_n hx hb d_LW_count_0 rfl (lv_at hl 2 rfl) ?_
  refine lv_iconst (v := 0) hx hb d_LW_count_1 (by decide) ?_
  refine lv_aload_n hx hb d_LW_count_2 rfl (lv_at hl 0 rfl) ?_
  refine lv_iload_n hx hb d_LW_count_3 rfl (lv_at hl 1 rfl) ?_
  by_cases z0 : r.1 = 0
  · rw [if_pos z0] at h
    refine hl_ret (As := [.int a1]) (rest := [.int 0, .ref aO]) ⟨hx, hb, hml.trans hl.1.symm, hown, hts⟩ (tx_asX (c_PM_count l hfl b0 G ad cI cZ σ a1 r g_r)) (cwV 1 hts (wg_V w_589 w_590 w_591 w_1 w_592) rfl rfl rfl (by decide +kernel) ⟨Nat.le_of_ble_eq_true rfl, Nat.le_of_ble_eq_true rfl⟩) hD hP hE hS z0 rfl (Nat.le_of_ble_eq_true rfl) d_LW_count_4 ⟨Nat.zero_le _, Nat.zero_le _⟩ (fun H locs hP hS => ?_)
    refine lv_i2l (v := Int32.toInt64 r.2) hx hb d_LW_count_7 rfl ?_
    refine va_last (D := G) hx hb hE.2.2.1 hP hD.d hS 32 0 rfl rfl (inB_in (by decide)) d_LW_count_8 (fun H locs hP hD9 hS => ?_)
    have hP : va_P G clX (wH ad cI cZ cJ aO σ (vp_updL y (Int32.toNatClampNeg 0) (Int32.toInt64 r.2))) H := hP
    refine lv_goto (tgt := 15) hx hb d_LW_count_9 (by decide) ?_
    refine lv_iconst (v := 0) hx hb d_LW_count_15 (by decide) ?_
    refine W.widen (k := 1) (n := 6) (by decide) (by decide) ?_
    exact W.iret hx hb hr (fun t ht _ => qh h ht hP hS) hS.2.2 d_LW_count_16
  · rw [if_neg z0] at h
    by_cases zc : r.1 = 2
    · rw [if_pos zc] at h
      refine hl_catch (k := r.1) (σ' := σ) (As := [.int a1]) (rest := [.int 0, .ref aO]) ⟨hx, hb, hml.trans hl.1.symm, hown, hts⟩ (tx_asX (c_PM_count l hfl b0 G ad cI cZ σ a1 r g_r)) (cwV 1 hts (wg_V w_589 w_590 w_591 w_1 w_592) rfl rfl rfl (by decide +kernel) ⟨Nat.le_of_ble_eq_true rfl, Nat.le_of_ble_eq_true rfl⟩) (fun a st o t q9 => ⟨q9.1, q9.2.1, q9.2.2.2 (by show r.1 ≠ 0; exact z0)⟩) hD hP hE hS z0 rfl (Nat.le_of_ble_eq_true rfl) d_LW_count_4 ⟨Nat.le_of_ble_eq_true rfl, Nat.le_of_ble_eq_true rfl⟩ (name := "java/lang/IllegalArgumentException") [] ⟨0, 9, 12, 15⟩ [] (htab.trans rfl) (fun _ h9 => nomatch h9) (by decide) (by decide) (hts _ w_208) (by rw [zc]; exact va_Nw.use rfl (hE.2.1.2.2.2.1 _ (List.mem_of_getElem? (i := 1) rfl))) (fun q9 H locs hP hS => ?_)
      refine lv_astore_n (lv' := [(3, .ref q9), (0, .ref (ad 0)), (1, .int a1), (2, .ref aO)]) hx hb d_LW_count_12 rfl hl (by decide) rfl (fun ls hl => ?_)
      refine lv_iconst (v := 1) hx hb d_LW_count_13 (by decide) ?_
      refine W.widen (k := 1) (n := 6) (by decide) (by decide) ?_
      exact W.iret hx hb hr (fun t ht _ => qh h ht hP hS) hS.2.2 d_LW_count_14
    · rw [if_neg zc] at h
      exact absurd h (by intro z9; cases z9)
