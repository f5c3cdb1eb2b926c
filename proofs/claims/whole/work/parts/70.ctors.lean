/-! constructors -/
theorem cI_eq {G : va_G} {cI cZ cA : ClassId} {s : State} (h : KX G cI cZ s) (hA : va_RA s cA .int) : cA = cI := Option.some.inj ((va_nm_int hA).symm.trans (va_nm_int (h.1.2 0 _ rfl).2))
theorem cZ_eq {G : va_G} {cI cZ cA : ClassId} {s : State} (h : KX G cI cZ s) (hA : va_RA s cA .boolean) : cA = cZ := Option.some.inj ((va_nm_boolean hA).symm.trans (va_nm_boolean (h.1.2 1 _ rfl).2))
section RK
variable {p : Program} {l : Launch} {e : Env} {R : Room} {s : State} {m : MethodId} {args : Array Value} {below : List Frame} {meth : Method} {c : Code} {H : Heap} {locs : List Loc} {cells slots : Nat} {Q : State → Prop}
variable {cc : ByteArray} {pc : Nat} {ls : Array Slot} {rest : List Value} {G : va_G} {ad : Nat → Nat} {cI cZ : ClassId} {own : String}
variable {A : Nat → Prop} {ws : va_W} {H0 : Heap}
theorem nwI (C : CX own cc p s m args c G cI cZ) (hP : va_P G clX ws H) (hD : va_D A ws) (hS : va_S A H0 H locs) (hA : ∀ q, H0.size ≤ q → A q) {n : Int32} {N : Nat} (hn : ¬ n < 0) (hN : n.toNatClampNeg = N) (hby : N ≤ 10000) (hcells : cells + 1 ≤ R.cells) (hslots : slots + N ≤ R.slots) (hd : decode cc pc = .ok (.newarray .int, 2))
    (kk : ∀ (q : Nat) (H1 : Heap), va_P G clX (ws ++ [(q, .inl (cI, N, .inl (fun _ => 0)))]) H1 → va_D A (ws ++ [(q, .inl (cI, N, .inl (fun _ => 0)))]) → va_S A H0 H1 locs → W p l e R s m args below meth c H1 locs (cells + 1) (slots + N) Q (F0 m (pc + 2) ls (.ref q :: rest))) : W p l e R s m args below meth c H locs cells slots Q (F0 m pc ls (.int n :: rest)) := by
  refine va_newa (atype := .int) (a0 := (N, .inl (fun _ => 0))) C.1 C.2.1 (C.2.2.2.1 _ w_42) (ty := .int) rfl C.2.2.2.2.1 hP hD hS hA (fun _ => rfl) hn hN (by show N * 4 ≤ _; omega) hcells hslots hd (fun q cA H1 hK1 hP1 hD1 hS1 => ?_)
  obtain rfl := cI_eq C.2.2.2.2 (hK1.2 2 _ rfl).2
  exact kk q H1 hP1 hD1 hS1
theorem nwZ (C : CX own cc p s m args c G cI cZ) (hP : va_P G clX ws H) (hD : va_D A ws) (hS : va_S A H0 H locs) (hA : ∀ q, H0.size ≤ q → A q) {n : Int32} {N : Nat} (hn : ¬ n < 0) (hN : n.toNatClampNeg = N) (hby : N ≤ 10000) (hcells : cells + 1 ≤ R.cells) (hslots : slots + N ≤ R.slots) (hd : decode cc pc = .ok (.newarray .boolean, 2))
    (kk : ∀ (q : Nat) (H1 : Heap), va_P G clX (ws ++ [(q, .inl (cZ, N, .inl (fun _ => 0)))]) H1 → va_D A (ws ++ [(q, .inl (cZ, N, .inl (fun _ => 0)))]) → va_S A H0 H1 locs → W p l e R s m args below meth c H1 locs (cells + 1) (slots + N) Q (F0 m (pc + 2) ls (.ref q :: rest))) : W p l e R s m args below meth c H locs cells slots Q (F0 m pc ls (.int n :: rest)) := by
  refine va_newa (atype := .boolean) (a0 := (N, .inl (fun _ => 0))) C.1 C.2.1 (C.2.2.2.1 _ w_78) (ty := .boolean) rfl C.2.2.2.2.1 hP hD hS hA (fun _ => rfl) hn hN (by show N * 1 ≤ _; omega) hcells hslots hd (fun q cA H1 hK1 hP1 hD1 hS1 => ?_)
  obtain rfl := cZ_eq C.2.2.2.2 (hK1.2 2 _ rfl).2
  exact kk q H1 hP1 hD1 hS1
end RK
/-- a constructor's start: one new object -/
def PcC (G : va_G) (cI cZ : ClassId) (sz h0 : Nat) (ws : va_W) : Array Value → State → Prop := va_Pc [.ref h0] (fun U => U.heap.size = sz ∧ va_P G clX ws U.heap ∧ va_D (fun _ => True) ws ∧ KX G cI cZ U)
theorem PcC.blind {G : va_G} {cI cZ : ClassId} {sz h0 : Nat} {ws : va_W} : FrameBlind (PcC G cI cZ sz h0 ws) := fun _ _ _ _ h => ⟨h.1, h.2.1, h.2.2.1, h.2.2.2.1, h.2.2.2.2.same rfl⟩
/-- a constructor's end: its cells, at addresses of its own -/
def QC (G : va_G) (h0 : Nat) (k0 : Nat) (ws0 : va_W) (sz : Nat) (wl : (Nat → Nat) → va_W) : Array Value → State → Outcome → State → Prop := va_Qv (fun ad : Nat → Nat => ad k0 = h0) (fun ad t => va_P G clX (wl ad) t.heap ∧ va_D (va_A ws0 sz) (wl ad)) (va_A ws0 sz)
def wl_ctor_Places (cI cZ : ClassId) (ad : Nat → Nat) : va_W := [(ad 1, .inr (1, [.ref (ad 9), .ref (ad 10), .int 0])), (ad 9, .inl (cI, 24, .inl (fun _ => 0))), (ad 10, .inl (cI, 24, .inl (fun _ => 0)))]
def wl_ctor_Things (cI cZ : ClassId) (ad : Nat → Nat) : va_W := [(ad 2, .inr (2, [.ref (ad 11), .ref (ad 12), .ref (ad 13), .ref (ad 14), .ref (ad 15), .ref (ad 16), .int 0])), (ad 11, .inl (cI, 20, .inl (fun _ => 0))), (ad 12, .inl (cI, 20, .inl (fun _ => 0))), (ad 13, .inl (cI, 20, .inl (fun _ => 0))), (ad 14, .inl (cI, 20, .inl (fun _ => 0))), (ad 15, .inl (cI, 20, .inl (fun _ => 0))), (ad 16, .inl (cZ, 20, .inl (fun _ => 0)))]
def wl_ctor_Rows (cI cZ : ClassId) (ad : Nat → Nat) : va_W := [(ad 3, .inr (3, [.ref (ad 17), .ref (ad 18), .ref (ad 19), .ref (ad 20), .int 0])), (ad 17, .inl (cI, 20, .inl (fun _ => 0))), (ad 18, .inl (cI, 800, .inl (fun _ => 0))), (ad 19, .inl (cI, 800, .inl (fun _ => 0))), (ad 20, .inl (cI, 800, .inl (fun _ => 0)))]
def wl_ctor_Doors (cI cZ : ClassId) (ad : Nat → Nat) : va_W := [(ad 4, .inr (4, [.ref (ad 21), .ref (ad 22), .ref (ad 23), .ref (ad 24), .int 0])), (ad 21, .inl (cI, 40, .inl (fun _ => 0))), (ad 22, .inl (cI, 40, .inl (fun _ => 0))), (ad 23, .inl (cI, 40, .inl (fun _ => 0))), (ad 24, .inl (cI, 40, .inl (fun _ => 0)))]
def wl_ctor_Plans (cI cZ : ClassId) (ad : Nat → Nat) : va_W := [(ad 5, .inr (5, [.ref (ad 25), .ref (ad 26), .ref (ad 27), .ref (ad 28), .int 0])), (ad 25, .inl (cI, 30, .inl (fun _ => 0))), (ad 26, .inl (cI, 30, .inl (fun _ => 0))), (ad 27, .inl (cI, 30, .inl (fun _ => 0))), (ad 28, .inl (cI, 30, .inl (fun _ => 0)))]
def wl_ctor_QuietTimes (cI cZ : ClassId) (ad : Nat → Nat) : va_W := [(ad 6, .inr (6, [.ref (ad 29), .ref (ad 30), .ref (ad 31), .int 0])), (ad 29, .inl (cI, 20, .inl (fun _ => 0))), (ad 30, .inl (cI, 20, .inl (fun _ => 0))), (ad 31, .inl (cI, 20, .inl (fun _ => 0)))]
abbrev wl_Places_init : List Cond := .code ⟨"PlaceMoves$Places", "<init>", "()V"⟩ prog_3_method_1_code 1 none :: WG
set_option maxHeartbeats 4000000 in
set_option maxRecDepth 100000 in
theorem c_Places_init (l : Launch) (G : va_G) (cI cZ : ClassId) (h0 sz : Nat) : Met l ⟨"PlaceMoves$Places", "<init>", "()V"⟩ wl_Places_init ({ frames := 1, cells := 2, slots := 48, locals := 12 } : Room) (PcC G cI cZ sz h0 [(h0, .inr (1, [.null, .null, .int 0]))]) (QC G h0 1 [(h0, .inr (1, [.null, .null, .int 0]))] sz (wl_ctor_Places cI cZ)) 2 48 (va_A [(h0, .inr (1, [.null, .null, .int 0]))] sz) := by
  refine Met.ofW (cc := prog_3_method_1_code) (maxL := 1) (ret := none) (by decide) rfl ?_
  intro p e s m args below meth c s₁ B hml hv
  obtain ⟨rfl, hsz, hP, hD0, hK⟩ := hv
  have hx := B.exec
  have hb := B.bytes
  have hr := B.returns
  have hts0 := atoms_spec (ws := wl_Places_init) B.pre
  have hts : ∀ w ∈ WG, w.before _ s = true := fun w hw => hts0 w (List.mem_cons_of_mem _ hw)
  have hown : s.vm.findClass "PlaceMoves$Places" = some m.cls := findClass_of_methodNamed B.named
  have hlocks := B.notSynchronized
  have hin : meth.name = "<init>" := (name_of_methodNamed B.named B.method).1
  have C : CX "PlaceMoves$Places" prog_3_method_1_code p s m _ c G cI cZ := ⟨hx, hb, hown, hts, hK⟩
  subst hsz
  have hD := hD0.self (sz := s.heap.size)
  generalize hAe : va_A [(h0, .inr (1, [.null, .null, .int 0]))] s.heap.size = A at hD ⊢
  have hA : ∀ q : Nat, s.heap.size ≤ q → A q := fun q h => by rw [← hAe]; exact Or.inr h
  have hS : va_S A s.heap s.heap [] := va_S.rf
  have hP : va_P G clX [(h0, .inr (1, [.null, .null, .int 0]))] s.heap := hP
  have hl := lv_entry ([.ref h0]) (n := 1) (Nat.le_of_ble_eq_true rfl)
  rw [lg_entry_eq]
  generalize (lg_sl ([.ref h0]) ++ List.replicate (1 - (lg_sl ([.ref h0])).length) Slot.unset).toArray = ls at hl ⊢
  have hl : lv_has ls 1 [(0, .ref h0)] := hl
  refine lv_aload_n hx hb d_Places_init_0 rfl (lv_at hl 0 rfl) ?_
  refine W.objInit hx hb hown (hts _ w_29) (hts _ w_22) (hts _ w_23) rfl (by rw [hml]; exact hl.1) rfl d_Places_init_1 (Nat.le_of_ble_eq_true rfl) (Nat.le_of_ble_eq_true rfl) ?_
  refine W.eq (g2 := F0 m 4 ls []) rfl ?_
  refine lv_aload_n hx hb d_Places_init_4 rfl (lv_at hl 0 rfl) ?_
  refine lv_bipush (v := 24) hx hb d_Places_init_5 (by decide) ?_
  refine nwI C hP hD hS hA (N := 24) (by decide) (by decide) (by decide) (by decide) (by decide) d_Places_init_7 (fun q1 H hP hD hS => ?_)
  have hP : va_P G clX [(h0, .inr (1, [.null, .null, .int 0])), (q1, .inl (cI, 24, .inl (fun _ => 0)))] H := hP
  have hD : va_D A [(h0, .inr (1, [.null, .null, .int 0])), (q1, .inl (cI, 24, .inl (fun _ => 0)))] := hD
  refine va_putF (D := G) (ci := 1) (v := .ref q1) (ty := .array .int) (C := "PlaceMoves$Places") (T := F_Places) (N := 3) hx hb hts i_Places t_Places t_Places_ok n_Places hown hK.1 hP hD hS 0 rfl rfl 0 (by decide) (hts _ w_30) (fun _ h9 => h9) rfl hin rfl (by decide +kernel) rfl rfl (Nat.le_of_ble_eq_true rfl) d_Places_init_9 (fun H locs hP hD hS => ?_)
  have hP : va_P G clX [(h0, .inr (1, [.ref q1, .null, .int 0])), (q1, .inl (cI, 24, .inl (fun _ => 0)))] H := hP
  have hD : va_D A [(h0, .inr (1, [.ref q1, .null, .int 0])), (q1, .inl (cI, 24, .inl (fun _ => 0)))] := hD
  refine lv_aload_n hx hb d_Places_init_12 rfl (lv_at hl 0 rfl) ?_
  refine lv_bipush (v := 24) hx hb d_Places_init_13 (by decide) ?_
  refine nwI C hP hD hS hA (N := 24) (by decide) (by decide) (by decide) (by decide) (by decide) d_Places_init_15 (fun q2 H hP hD hS => ?_)
  have hP : va_P G clX [(h0, .inr (1, [.ref q1, .null, .int 0])), (q1, .inl (cI, 24, .inl (fun _ => 0))), (q2, .inl (cI, 24, .inl (fun _ => 0)))] H := hP
  have hD : va_D A [(h0, .inr (1, [.ref q1, .null, .int 0])), (q1, .inl (cI, 24, .inl (fun _ => 0))), (q2, .inl (cI, 24, .inl (fun _ => 0)))] := hD
  refine va_putF (D := G) (ci := 1) (v := .ref q2) (ty := .array .int) (C := "PlaceMoves$Places") (T := F_Places) (N := 3) hx hb hts i_Places t_Places t_Places_ok n_Places hown hK.1 hP hD hS 0 rfl rfl 1 (by decide) (hts _ w_32) (fun _ h9 => h9) rfl hin rfl (by decide +kernel) rfl rfl (Nat.le_of_ble_eq_true rfl) d_Places_init_17 (fun H locs hP hD hS => ?_)
  have hP : va_P G clX [(h0, .inr (1, [.ref q1, .ref q2, .int 0])), (q1, .inl (cI, 24, .inl (fun _ => 0))), (q2, .inl (cI, 24, .inl (fun _ => 0)))] H := hP
  have hD : va_D A [(h0, .inr (1, [.ref q1, .ref q2, .int 0])), (q1, .inl (cI, 24, .inl (fun _ => 0))), (q2, .inl (cI, 24, .inl (fun _ => 0)))] := hD
  refine lv_aload_n hx hb d_Places_init_20 rfl (lv_at hl 0 rfl) ?_
  refine lv_iconst (v := 0) hx hb d_Places_init_21 (by decide) ?_
  refine va_put (D := G) (ci := 1) (v := .int 0) (ty := .int) (C := "PlaceMoves$Places") (T := F_Places) (N := 3) hx hb hts i_Places t_Places t_Places_ok n_Places hown hK.1 hP hD hS 0 rfl rfl 2 (by decide) (hts _ w_33) (fun _ h9 => h9) rfl (by decide +kernel) rfl rfl (Nat.le_of_ble_eq_true rfl) d_Places_init_22 (fun H locs hP hD hS => ?_)
  have hP : va_P G clX [(h0, .inr (1, [.ref q1, .ref q2, .int 0])), (q1, .inl (cI, 24, .inl (fun _ => 0))), (q2, .inl (cI, 24, .inl (fun _ => 0)))] H := hP
  have hD : va_D A [(h0, .inr (1, [.ref q1, .ref q2, .int 0])), (q1, .inl (cI, 24, .inl (fun _ => 0))), (q2, .inl (cI, 24, .inl (fun _ => 0)))] := hD
  obtain ⟨ad, had⟩ : ∃ ad : Nat → Nat, ad = fun k => [0, h0, 0, 0, 0, 0, 0, 0, 0, q1, q2].getD k 0 := ⟨_, rfl⟩
  have hP9 : va_P G clX (wl_ctor_Places cI cZ ad) H := by rw [had]; exact hP.sub [0, 1, 2] rfl
  have hD9 : va_D A (wl_ctor_Places cI cZ ad) := by rw [had]; exact hD.sub [0, 1, 2] (by decide) rfl
  subst hAe
  refine W.widen (k := 2) (n := 48) (by decide) (by decide) ?_
  exact W.vret hx hb hr (fun t ht hZ => ⟨⟨ad, rfl, by rw [had]; rfl, by rw [ht]; exact hP9, hD9⟩, hS.F ht⟩) hS.2.2 d_Places_init_25
abbrev wl_Things_init : List Cond := .code ⟨"PlaceMoves$Things", "<init>", "()V"⟩ prog_7_method_1_code 1 none :: WG
set_option maxHeartbeats 4000000 in
set_option maxRecDepth 100000 in
theorem c_Things_init (l : Launch) (G : va_G) (cI cZ : ClassId) (h0 sz : Nat) : Met l ⟨"PlaceMoves$Things", "<init>", "()V"⟩ wl_Things_init ({ frames := 1, cells := 6, slots := 120, locals := 12 } : Room) (PcC G cI cZ sz h0 [(h0, .inr (2, [.null, .null, .null, .null, .null, .null, .int 0]))]) (QC G h0 2 [(h0, .inr (2, [.null, .null, .null, .null, .null, .null, .int 0]))] sz (wl_ctor_Things cI cZ)) 6 120 (va_A [(h0, .inr (2, [.null, .null, .null, .null, .null, .null, .int 0]))] sz) := by
  refine Met.ofW (cc := prog_7_method_1_code) (maxL := 1) (ret := none) (by decide) rfl ?_
  intro p e s m args below meth c s₁ B hml hv
  obtain ⟨rfl, hsz, hP, hD0, hK⟩ := hv
  have hx := B.exec
  have hb := B.bytes
  have hr := B.returns
  have hts0 := atoms_spec (ws := wl_Things_init) B.pre
  have hts : ∀ w ∈ WG, w.before _ s = true := fun w hw => hts0 w (List.mem_cons_of_mem _ hw)
  have hown : s.vm.findClass "PlaceMoves$Things" = some m.cls := findClass_of_methodNamed B.named
  have hlocks := B.notSynchronized
  have hin : meth.name = "<init>" := (name_of_methodNamed B.named B.method).1
  have C : CX "PlaceMoves$Things" prog_7_method_1_code p s m _ c G cI cZ := ⟨hx, hb, hown, hts, hK⟩
  subst hsz
  have hD := hD0.self (sz := s.heap.size)
  generalize hAe : va_A [(h0, .inr (2, [.null, .null, .null, .null, .null, .null, .int 0]))] s.heap.size = A at hD ⊢
  have hA : ∀ q : Nat, s.heap.size ≤ q → A q := fun q h => by rw [← hAe]; exact Or.inr h
  have hS : va_S A s.heap s.heap [] := va_S.rf
  have hP : va_P G clX [(h0, .inr (2, [.null, .null, .null, .null, .null, .null, .int 0]))] s.heap := hP
  have hl := lv_entry ([.ref h0]) (n := 1) (Nat.le_of_ble_eq_true rfl)
  rw [lg_entry_eq]
  generalize (lg_sl ([.ref h0]) ++ List.replicate (1 - (lg_sl ([.ref h0])).length) Slot.unset).toArray = ls at hl ⊢
  have hl : lv_has ls 1 [(0, .ref h0)] := hl
  refine lv_aload_n hx hb d_Things_init_0 rfl (lv_at hl 0 rfl) ?_
  refine W.objInit hx hb hown (hts _ w_48) (hts _ w_22) (hts _ w_23) rfl (by rw [hml]; exact hl.1) rfl d_Things_init_1 (Nat.le_of_ble_eq_true rfl) (Nat.le_of_ble_eq_true rfl) ?_
  refine W.eq (g2 := F0 m 4 ls []) rfl ?_
  refine lv_aload_n hx hb d_Things_init_4 rfl (lv_at hl 0 rfl) ?_
  refine lv_bipush (v := 20) hx hb d_Things_init_5 (by decide) ?_
  refine nwI C hP hD hS hA (N := 20) (by decide) (by decide) (by decide) (by decide) (by decide) d_Things_init_7 (fun q1 H hP hD hS => ?_)
  have hP : va_P G clX [(h0, .inr (2, [.null, .null, .null, .null, .null, .null, .int 0])), (q1, .inl (cI, 20, .inl (fun _ => 0)))] H := hP
  have hD : va_D A [(h0, .inr (2, [.null, .null, .null, .null, .null, .null, .int 0])), (q1, .inl (cI, 20, .inl (fun _ => 0)))] := hD
  refine va_putF (D := G) (ci := 2) (v := .ref q1) (ty := .array .int) (C := "PlaceMoves$Things") (T := F_Things) (N := 7) hx hb hts i_Things t_Things t_Things_ok n_Things hown hK.1 hP hD hS 0 rfl rfl 0 (by decide) (hts _ w_49) (fun _ h9 => h9) rfl hin rfl (by decide +kernel) rfl rfl (Nat.le_of_ble_eq_true rfl) d_Things_init_9 (fun H locs hP hD hS => ?_)
  have hP : va_P G clX [(h0, .inr (2, [.ref q1, .null, .null, .null, .null, .null, .int 0])), (q1, .inl (cI, 20, .inl (fun _ => 0)))] H := hP
  have hD : va_D A [(h0, .inr (2, [.ref q1, .null, .null, .null, .null, .null, .int 0])), (q1, .inl (cI, 20, .inl (fun _ => 0)))] := hD
  refine lv_aload_n hx hb d_Things_init_12 rfl (lv_at hl 0 rfl) ?_
  refine lv_bipush (v := 20) hx hb d_Things_init_13 (by decide) ?_
  refine nwI C hP hD hS hA (N := 20) (by decide) (by decide) (by decide) (by decide) (by decide) d_Things_init_15 (fun q2 H hP hD hS => ?_)
  have hP : va_P G clX [(h0, .inr (2, [.ref q1, .null, .null, .null, .null, .null, .int 0])), (q1, .inl (cI, 20, .inl (fun _ => 0))), (q2, .inl (cI, 20, .inl (fun _ => 0)))] H := hP
  have hD : va_D A [(h0, .inr (2, [.ref q1, .null, .null, .null, .null, .null, .int 0])), (q1, .inl (cI, 20, .inl (fun _ => 0))), (q2, .inl (cI, 20, .inl (fun _ => 0)))] := hD
  refine va_putF (D := G) (ci := 2) (v := .ref q2) (ty := .array .int) (C := "PlaceMoves$Things") (T := F_Things) (N := 7) hx hb hts i_Things t_Things t_Things_ok n_Things hown hK.1 hP hD hS 0 rfl rfl 1 (by decide) (hts _ w_51) (fun _ h9 => h9) rfl hin rfl (by decide +kernel) rfl rfl (Nat.le_of_ble_eq_true rfl) d_Things_init_17 (fun H locs hP hD hS => ?_)
  have hP : va_P G clX [(h0, .inr (2, [.ref q1, .ref q2, .null, .null, .null, .null, .int 0])), (q1, .inl (cI, 20, .inl (fun _ => 0))), (q2, .inl (cI, 20, .inl (fun _ => 0)))] H := hP
  have hD : va_D A [(h0, .inr (2, [.ref q1, .ref q2, .null, .null, .null, .null, .int 0])), (q1, .inl (cI, 20, .inl (fun _ => 0))), (q2, .inl (cI, 20, .inl (fun _ => 0)))] := hD
  refine lv_aload_n hx hb d_Things_init_20 rfl (lv_at hl 0 rfl) ?_
  refine lv_bipush (v := 20) hx hb d_Things_init_21 (by decide) ?_
  refine nwI C hP hD hS hA (N := 20) (by decide) (by decide) (by decide) (by decide) (by decide) d_Things_init_23 (fun q3 H hP hD hS => ?_)
  have hP : va_P G clX [(h0, .inr (2, [.ref q1, .ref q2, .null, .null, .null, .null, .int 0])), (q1, .inl (cI, 20, .inl (fun _ => 0))), (q2, .inl (cI, 20, .inl (fun _ => 0))), (q3, .inl (cI, 20, .inl (fun _ => 0)))] H := hP
  have hD : va_D A [(h0, .inr (2, [.ref q1, .ref q2, .null, .null, .null, .null, .int 0])), (q1, .inl (cI, 20, .inl (fun _ => 0))), (q2, .inl (cI, 20, .inl (fun _ => 0))), (q3, .inl (cI, 20, .inl (fun _ => 0)))] := hD
  refine va_putF (D := G) (ci := 2) (v := .ref q3) (ty := .array .int) (C := "PlaceMoves$Things") (T := F_Things) (N := 7) hx hb hts i_Things t_Things t_Things_ok n_Things hown hK.1 hP hD hS 0 rfl rfl 2 (by decide) (hts _ w_53) (fun _ h9 => h9) rfl hin rfl (by decide +kernel) rfl rfl (Nat.le_of_ble_eq_true rfl) d_Things_init_25 (fun H locs hP hD hS => ?_)
  have hP : va_P G clX [(h0, .inr (2, [.ref q1, .ref q2, .ref q3, .null, .null, .null, .int 0])), (q1, .inl (cI, 20, .inl (fun _ => 0))), (q2, .inl (cI, 20, .inl (fun _ => 0))), (q3, .inl (cI, 20, .inl (fun _ => 0)))] H := hP
  have hD : va_D A [(h0, .inr (2, [.ref q1, .ref q2, .ref q3, .null, .null, .null, .int 0])), (q1, .inl (cI, 20, .inl (fun _ => 0))), (q2, .inl (cI, 20, .inl (fun _ => 0))), (q3, .inl (cI, 20, .inl (fun _ => 0)))] := hD
  refine lv_aload_n hx hb d_Things_init_28 rfl (lv_at hl 0 rfl) ?_
  refine lv_bipush (v := 20) hx hb d_Things_init_29 (by decide) ?_
  refine nwI C hP hD hS hA (N := 20) (by decide) (by decide) (by decide) (by decide) (by decide) d_Things_init_31 (fun q4 H hP hD hS => ?_)
  have hP : va_P G clX [(h0, .inr (2, [.ref q1, .ref q2, .ref q3, .null, .null, .null, .int 0])), (q1, .inl (cI, 20, .inl (fun _ => 0))), (q2, .inl (cI, 20, .inl (fun _ => 0))), (q3, .inl (cI, 20, .inl (fun _ => 0))), (q4, .inl (cI, 20, .inl (fun _ => 0)))] H := hP
  have hD : va_D A [(h0, .inr (2, [.ref q1, .ref q2, .ref q3, .null, .null, .null, .int 0])), (q1, .inl (cI, 20, .inl (fun _ => 0))), (q2, .inl (cI, 20, .inl (fun _ => 0))), (q3, .inl (cI, 20, .inl (fun _ => 0))), (q4, .inl (cI, 20, .inl (fun _ => 0)))] := hD
  refine va_putF (D := G) (ci := 2) (v := .ref q4) (ty := .array .int) (C := "PlaceMoves$Things") (T := F_Things) (N := 7) hx hb hts i_Things t_Things t_Things_ok n_Things hown hK.1 hP hD hS 0 rfl rfl 3 (by decide) (hts _ w_55) (fun _ h9 => h9) rfl hin rfl (by decide +kernel) rfl rfl (Nat.le_of_ble_eq_true rfl) d_Things_init_33 (fun H locs hP hD hS => ?_)
  have hP : va_P G clX [(h0, .inr (2, [.ref q1, .ref q2, .ref q3, .ref q4, .null, .null, .int 0])), (q1, .inl (cI, 20, .inl (fun _ => 0))), (q2, .inl (cI, 20, .inl (fun _ => 0))), (q3, .inl (cI, 20, .inl (fun _ => 0))), (q4, .inl (cI, 20, .inl (fun _ => 0)))] H := hP
  have hD : va_D A [(h0, .inr (2, [.ref q1, .ref q2, .ref q3, .ref q4, .null, .null, .int 0])), (q1, .inl (cI, 20, .inl (fun _ => 0))), (q2, .inl (cI, 20, .inl (fun _ => 0))), (q3, .inl (cI, 20, .inl (fun _ => 0))), (q4, .inl (cI, 20, .inl (fun _ => 0)))] := hD
  refine lv_aload_n hx hb d_Things_init_36 rfl (lv_at hl 0 rfl) ?_
  refine lv_bipush (v := 20) hx hb d_Things_init_37 (by decide) ?_
  refine nwI C hP hD hS hA (N := 20) (by decide) (by decide) (by decide) (by decide) (by decide) d_Things_init_39 (fun q5 H hP hD hS => ?_)
  have hP : va_P G clX [(h0, .inr (2, [.ref q1, .ref q2, .ref q3, .ref q4, .null, .null, .int 0])), (q1, .inl (cI, 20, .inl (fun _ => 0))), (q2, .inl (cI, 20, .inl (fun _ => 0))), (q3, .inl (cI, 20, .inl (fun _ => 0))), (q4, .inl (cI, 20, .inl (fun _ => 0))), (q5, .inl (cI, 20, .inl (fun _ => 0)))] H := hP
  have hD : va_D A [(h0, .inr (2, [.ref q1, .ref q2, .ref q3, .ref q4, .null, .null, .int 0])), (q1, .inl (cI, 20, .inl (fun _ => 0))), (q2, .inl (cI, 20, .inl (fun _ => 0))), (q3, .inl (cI, 20, .inl (fun _ => 0))), (q4, .inl (cI, 20, .inl (fun _ => 0))), (q5, .inl (cI, 20, .inl (fun _ => 0)))] := hD
  refine va_putF (D := G) (ci := 2) (v := .ref q5) (ty := .array .int) (C := "PlaceMoves$Things") (T := F_Things) (N := 7) hx hb hts i_Things t_Things t_Things_ok n_Things hown hK.1 hP hD hS 0 rfl rfl 4 (by decide) (hts _ w_57) (fun _ h9 => h9) rfl hin rfl (by decide +kernel) rfl rfl (Nat.le_of_ble_eq_true rfl) d_Things_init_41 (fun H locs hP hD hS => ?_)
  have hP : va_P G clX [(h0, .inr (2, [.ref q1, .ref q2, .ref q3, .ref q4, .ref q5, .null, .int 0])), (q1, .inl (cI, 20, .inl (fun _ => 0))), (q2, .inl (cI, 20, .inl (fun _ => 0))), (q3, .inl (cI, 20, .inl (fun _ => 0))), (q4, .inl (cI, 20, .inl (fun _ => 0))), (q5, .inl (cI, 20, .inl (fun _ => 0)))] H := hP
  have hD : va_D A [(h0, .inr (2, [.ref q1, .ref q2, .ref q3, .ref q4, .ref q5, .null, .int 0])), (q1, .inl (cI, 20, .inl (fun _ => 0))), (q2, .inl (cI, 20, .inl (fun _ => 0))), (q3, .inl (cI, 20, .inl (fun _ => 0))), (q4, .inl (cI, 20, .inl (fun _ => 0))), (q5, .inl (cI, 20, .inl (fun _ => 0)))] := hD
  refine lv_aload_n hx hb d_Things_init_44 rfl (lv_at hl 0 rfl) ?_
  refine lv_bipush (v := 20) hx hb d_Things_init_45 (by decide) ?_
  refine nwZ C hP hD hS hA (N := 20) (by decide) (by decide) (by decide) (by decide) (by decide) d_Things_init_47 (fun q6 H hP hD hS => ?_)
  have hP : va_P G clX [(h0, .inr (2, [.ref q1, .ref q2, .ref q3, .ref q4, .ref q5, .null, .int 0])), (q1, .inl (cI, 20, .inl (fun _ => 0))), (q2, .inl (cI, 20, .inl (fun _ => 0))), (q3, .inl (cI, 20, .inl (fun _ => 0))), (q4, .inl (cI, 20, .inl (fun _ => 0))), (q5, .inl (cI, 20, .inl (fun _ => 0))), (q6, .inl (cZ, 20, .inl (fun _ => 0)))] H := hP
  have hD : va_D A [(h0, .inr (2, [.ref q1, .ref q2, .ref q3, .ref q4, .ref q5, .null, .int 0])), (q1, .inl (cI, 20, .inl (fun _ => 0))), (q2, .inl (cI, 20, .inl (fun _ => 0))), (q3, .inl (cI, 20, .inl (fun _ => 0))), (q4, .inl (cI, 20, .inl (fun _ => 0))), (q5, .inl (cI, 20, .inl (fun _ => 0))), (q6, .inl (cZ, 20, .inl (fun _ => 0)))] := hD
  refine va_putF (D := G) (ci := 2) (v := .ref q6) (ty := .array .boolean) (C := "PlaceMoves$Things") (T := F_Things) (N := 7) hx hb hts i_Things t_Things t_Things_ok n_Things hown hK.1 hP hD hS 0 rfl rfl 5 (by decide) (hts _ w_59) (fun _ h9 => h9) rfl hin rfl (by decide +kernel) rfl rfl (Nat.le_of_ble_eq_true rfl) d_Things_init_49 (fun H locs hP hD hS => ?_)
  have hP : va_P G clX [(h0, .inr (2, [.ref q1, .ref q2, .ref q3, .ref q4, .ref q5, .ref q6, .int 0])), (q1, .inl (cI, 20, .inl (fun _ => 0))), (q2, .inl (cI, 20, .inl (fun _ => 0))), (q3, .inl (cI, 20, .inl (fun _ => 0))), (q4, .inl (cI, 20, .inl (fun _ => 0))), (q5, .inl (cI, 20, .inl (fun _ => 0))), (q6, .inl (cZ, 20, .inl (fun _ => 0)))] H := hP
  have hD : va_D A [(h0, .inr (2, [.ref q1, .ref q2, .ref q3, .ref q4, .ref q5, .ref q6, .int 0])), (q1, .inl (cI, 20, .inl (fun _ => 0))), (q2, .inl (cI, 20, .inl (fun _ => 0))), (q3, .inl (cI, 20, .inl (fun _ => 0))), (q4, .inl (cI, 20, .inl (fun _ => 0))), (q5, .inl (cI, 20, .inl (fun _ => 0))), (q6, .inl (cZ, 20, .inl (fun _ => 0)))] := hD
  refine lv_aload_n hx hb d_Things_init_52 rfl (lv_at hl 0 rfl) ?_
  refine lv_iconst (v := 0) hx hb d_Things_init_53 (by decide) ?_
  refine va_put (D := G) (ci := 2) (v := .int 0) (ty := .int) (C := "PlaceMoves$Things") (T := F_Things) (N := 7) hx hb hts i_Things t_Things t_Things_ok n_Things hown hK.1 hP hD hS 0 rfl rfl 6 (by decide) (hts _ w_61) (fun _ h9 => h9) rfl (by decide +kernel) rfl rfl (Nat.le_of_ble_eq_true rfl) d_Things_init_54 (fun H locs hP hD hS => ?_)
  have hP : va_P G clX [(h0, .inr (2, [.ref q1, .ref q2, .ref q3, .ref q4, .ref q5, .ref q6, .int 0])), (q1, .inl (cI, 20, .inl (fun _ => 0))), (q2, .inl (cI, 20, .inl (fun _ => 0))), (q3, .inl (cI, 20, .inl (fun _ => 0))), (q4, .inl (cI, 20, .inl (fun _ => 0))), (q5, .inl (cI, 20, .inl (fun _ => 0))), (q6, .inl (cZ, 20, .inl (fun _ => 0)))] H := hP
  have hD : va_D A [(h0, .inr (2, [.ref q1, .ref q2, .ref q3, .ref q4, .ref q5, .ref q6, .int 0])), (q1, .inl (cI, 20, .inl (fun _ => 0))), (q2, .inl (cI, 20, .inl (fun _ => 0))), (q3, .inl (cI, 20, .inl (fun _ => 0))), (q4, .inl (cI, 20, .inl (fun _ => 0))), (q5, .inl (cI, 20, .inl (fun _ => 0))), (q6, .inl (cZ, 20, .inl (fun _ => 0)))] := hD
  obtain ⟨ad, had⟩ : ∃ ad : Nat → Nat, ad = fun k => [0, 0, h0, 0, 0, 0, 0, 0, 0, 0, 0, q1, q2, q3, q4, q5, q6].getD k 0 := ⟨_, rfl⟩
  have hP9 : va_P G clX (wl_ctor_Things cI cZ ad) H := by rw [had]; exact hP.sub [0, 1, 2, 3, 4, 5, 6] rfl
  have hD9 : va_D A (wl_ctor_Things cI cZ ad) := by rw [had]; exact hD.sub [0, 1, 2, 3, 4, 5, 6] (by decide) rfl
  subst hAe
  refine W.widen (k := 6) (n := 120) (by decide) (by decide) ?_
  exact W.vret hx hb hr (fun t ht hZ => ⟨⟨ad, rfl, by rw [had]; rfl, by rw [ht]; exact hP9, hD9⟩, hS.F ht⟩) hS.2.2 d_Things_init_57
abbrev wl_Rows_init : List Cond := .code ⟨"PlaceMoves$Rows", "<init>", "()V"⟩ prog_6_method_1_code 1 none :: WG
set_option maxHeartbeats 4000000 in
set_option maxRecDepth 100000 in
theorem c_Rows_init (l : Launch) (G : va_G) (cI cZ : ClassId) (h0 sz : Nat) : Met l ⟨"PlaceMoves$Rows", "<init>", "()V"⟩ wl_Rows_init ({ frames := 1, cells := 4, slots := 2420, locals := 12 } : Room) (PcC G cI cZ sz h0 [(h0, .inr (3, [.null, .null, .null, .null, .int 0]))]) (QC G h0 3 [(h0, .inr (3, [.null, .null, .null, .null, .int 0]))] sz (wl_ctor_Rows cI cZ)) 4 2420 (va_A [(h0, .inr (3, [.null, .null, .null, .null, .int 0]))] sz) := by
  refine Met.ofW (cc := prog_6_method_1_code) (maxL := 1) (ret := none) (by decide) rfl ?_
  intro p e s m args below meth c s₁ B hml hv
  obtain ⟨rfl, hsz, hP, hD0, hK⟩ := hv
  have hx := B.exec
  have hb := B.bytes
  have hr := B.returns
  have hts0 := atoms_spec (ws := wl_Rows_init) B.pre
  have hts : ∀ w ∈ WG, w.before _ s = true := fun w hw => hts0 w (List.mem_cons_of_mem _ hw)
  have hown : s.vm.findClass "PlaceMoves$Rows" = some m.cls := findClass_of_methodNamed B.named
  have hlocks := B.notSynchronized
  have hin : meth.name = "<init>" := (name_of_methodNamed B.named B.method).1
  have C : CX "PlaceMoves$Rows" prog_6_method_1_code p s m _ c G cI cZ := ⟨hx, hb, hown, hts, hK⟩
  subst hsz
  have hD := hD0.self (sz := s.heap.size)
  generalize hAe : va_A [(h0, .inr (3, [.null, .null, .null, .null, .int 0]))] s.heap.size = A at hD ⊢
  have hA : ∀ q : Nat, s.heap.size ≤ q → A q := fun q h => by rw [← hAe]; exact Or.inr h
  have hS : va_S A s.heap s.heap [] := va_S.rf
  have hP : va_P G clX [(h0, .inr (3, [.null, .null, .null, .null, .int 0]))] s.heap := hP
  have hl := lv_entry ([.ref h0]) (n := 1) (Nat.le_of_ble_eq_true rfl)
  rw [lg_entry_eq]
  generalize (lg_sl ([.ref h0]) ++ List.replicate (1 - (lg_sl ([.ref h0])).length) Slot.unset).toArray = ls at hl ⊢
  have hl : lv_has ls 1 [(0, .ref h0)] := hl
  refine lv_aload_n hx hb d_Rows_init_0 rfl (lv_at hl 0 rfl) ?_
  refine W.objInit hx hb hown (hts _ w_84) (hts _ w_22) (hts _ w_23) rfl (by rw [hml]; exact hl.1) rfl d_Rows_init_1 (Nat.le_of_ble_eq_true rfl) (Nat.le_of_ble_eq_true rfl) ?_
  refine W.eq (g2 := F0 m 4 ls []) rfl ?_
  refine lv_aload_n hx hb d_Rows_init_4 rfl (lv_at hl 0 rfl) ?_
  refine lv_bipush (v := 20) hx hb d_Rows_init_5 (by decide) ?_
  refine nwI C hP hD hS hA (N := 20) (by decide) (by decide) (by decide) (by decide) (by decide) d_Rows_init_7 (fun q1 H hP hD hS => ?_)
  have hP : va_P G clX [(h0, .inr (3, [.null, .null, .null, .null, .int 0])), (q1, .inl (cI, 20, .inl (fun _ => 0)))] H := hP
  have hD : va_D A [(h0, .inr (3, [.null, .null, .null, .null, .int 0])), (q1, .inl (cI, 20, .inl (fun _ => 0)))] := hD
  refine va_putF (D := G) (ci := 3) (v := .ref q1) (ty := .array .int) (C := "PlaceMoves$Rows") (T := F_Rows) (N := 5) hx hb hts i_Rows t_Rows t_Rows_ok n_Rows hown hK.1 hP hD hS 0 rfl rfl 0 (by decide) (hts _ w_85) (fun _ h9 => h9) rfl hin rfl (by decide +kernel) rfl rfl (Nat.le_of_ble_eq_true rfl) d_Rows_init_9 (fun H locs hP hD hS => ?_)
  have hP : va_P G clX [(h0, .inr (3, [.ref q1, .null, .null, .null, .int 0])), (q1, .inl (cI, 20, .inl (fun _ => 0)))] H := hP
  have hD : va_D A [(h0, .inr (3, [.ref q1, .null, .null, .null, .int 0])), (q1, .inl (cI, 20, .inl (fun _ => 0)))] := hD
  refine lv_aload_n hx hb d_Rows_init_12 rfl (lv_at hl 0 rfl) ?_
  refine lv_sipush (v := 800) hx hb d_Rows_init_13 (by decide) ?_
  refine nwI C hP hD hS hA (N := 800) (by decide) (by decide) (by decide) (by decide) (by decide) d_Rows_init_16 (fun q2 H hP hD hS => ?_)
  have hP : va_P G clX [(h0, .inr (3, [.ref q1, .null, .null, .null, .int 0])), (q1, .inl (cI, 20, .inl (fun _ => 0))), (q2, .inl (cI, 800, .inl (fun _ => 0)))] H := hP
  have hD : va_D A [(h0, .inr (3, [.ref q1, .null, .null, .null, .int 0])), (q1, .inl (cI, 20, .inl (fun _ => 0))), (q2, .inl (cI, 800, .inl (fun _ => 0)))] := hD
  refine va_putF (D := G) (ci := 3) (v := .ref q2) (ty := .array .int) (C := "PlaceMoves$Rows") (T := F_Rows) (N := 5) hx hb hts i_Rows t_Rows t_Rows_ok n_Rows hown hK.1 hP hD hS 0 rfl rfl 1 (by decide) (hts _ w_87) (fun _ h9 => h9) rfl hin rfl (by decide +kernel) rfl rfl (Nat.le_of_ble_eq_true rfl) d_Rows_init_18 (fun H locs hP hD hS => ?_)
  have hP : va_P G clX [(h0, .inr (3, [.ref q1, .ref q2, .null, .null, .int 0])), (q1, .inl (cI, 20, .inl (fun _ => 0))), (q2, .inl (cI, 800, .inl (fun _ => 0)))] H := hP
  have hD : va_D A [(h0, .inr (3, [.ref q1, .ref q2, .null, .null, .int 0])), (q1, .inl (cI, 20, .inl (fun _ => 0))), (q2, .inl (cI, 800, .inl (fun _ => 0)))] := hD
  refine lv_aload_n hx hb d_Rows_init_21 rfl (lv_at hl 0 rfl) ?_
  refine lv_sipush (v := 800) hx hb d_Rows_init_22 (by decide) ?_
  refine nwI C hP hD hS hA (N := 800) (by decide) (by decide) (by decide) (by decide) (by decide) d_Rows_init_25 (fun q3 H hP hD hS => ?_)
  have hP : va_P G clX [(h0, .inr (3, [.ref q1, .ref q2, .null, .null, .int 0])), (q1, .inl (cI, 20, .inl (fun _ => 0))), (q2, .inl (cI, 800, .inl (fun _ => 0))), (q3, .inl (cI, 800, .inl (fun _ => 0)))] H := hP
  have hD : va_D A [(h0, .inr (3, [.ref q1, .ref q2, .null, .null, .int 0])), (q1, .inl (cI, 20, .inl (fun _ => 0))), (q2, .inl (cI, 800, .inl (fun _ => 0))), (q3, .inl (cI, 800, .inl (fun _ => 0)))] := hD
  refine va_putF (D := G) (ci := 3) (v := .ref q3) (ty := .array .int) (C := "PlaceMoves$Rows") (T := F_Rows) (N := 5) hx hb hts i_Rows t_Rows t_Rows_ok n_Rows hown hK.1 hP hD hS 0 rfl rfl 2 (by decide) (hts _ w_89) (fun _ h9 => h9) rfl hin rfl (by decide +kernel) rfl rfl (Nat.le_of_ble_eq_true rfl) d_Rows_init_27 (fun H locs hP hD hS => ?_)
  have hP : va_P G clX [(h0, .inr (3, [.ref q1, .ref q2, .ref q3, .null, .int 0])), (q1, .inl (cI, 20, .inl (fun _ => 0))), (q2, .inl (cI, 800, .inl (fun _ => 0))), (q3, .inl (cI, 800, .inl (fun _ => 0)))] H := hP
  have hD : va_D A [(h0, .inr (3, [.ref q1, .ref q2, .ref q3, .null, .int 0])), (q1, .inl (cI, 20, .inl (fun _ => 0))), (q2, .inl (cI, 800, .inl (fun _ => 0))), (q3, .inl (cI, 800, .inl (fun _ => 0)))] := hD
  refine lv_aload_n hx hb d_Rows_init_30 rfl (lv_at hl 0 rfl) ?_
  refine lv_sipush (v := 800) hx hb d_Rows_init_31 (by decide) ?_
  refine nwI C hP hD hS hA (N := 800) (by decide) (by decide) (by decide) (by decide) (by decide) d_Rows_init_34 (fun q4 H hP hD hS => ?_)
  have hP : va_P G clX [(h0, .inr (3, [.ref q1, .ref q2, .ref q3, .null, .int 0])), (q1, .inl (cI, 20, .inl (fun _ => 0))), (q2, .inl (cI, 800, .inl (fun _ => 0))), (q3, .inl (cI, 800, .inl (fun _ => 0))), (q4, .inl (cI, 800, .inl (fun _ => 0)))] H := hP
  have hD : va_D A [(h0, .inr (3, [.ref q1, .ref q2, .ref q3, .null, .int 0])), (q1, .inl (cI, 20, .inl (fun _ => 0))), (q2, .inl (cI, 800, .inl (fun _ => 0))), (q3, .inl (cI, 800, .inl (fun _ => 0))), (q4, .inl (cI, 800, .inl (fun _ => 0)))] := hD
  refine va_putF (D := G) (ci := 3) (v := .ref q4) (ty := .array .int) (C := "PlaceMoves$Rows") (T := F_Rows) (N := 5) hx hb hts i_Rows t_Rows t_Rows_ok n_Rows hown hK.1 hP hD hS 0 rfl rfl 3 (by decide) (hts _ w_91) (fun _ h9 => h9) rfl hin rfl (by decide +kernel) rfl rfl (Nat.le_of_ble_eq_true rfl) d_Rows_init_36 (fun H locs hP hD hS => ?_)
  have hP : va_P G clX [(h0, .inr (3, [.ref q1, .ref q2, .ref q3, .ref q4, .int 0])), (q1, .inl (cI, 20, .inl (fun _ => 0))), (q2, .inl (cI, 800, .inl (fun _ => 0))), (q3, .inl (cI, 800, .inl (fun _ => 0))), (q4, .inl (cI, 800, .inl (fun _ => 0)))] H := hP
  have hD : va_D A [(h0, .inr (3, [.ref q1, .ref q2, .ref q3, .ref q4, .int 0])), (q1, .inl (cI, 20, .inl (fun _ => 0))), (q2, .inl (cI, 800, .inl (fun _ => 0))), (q3, .inl (cI, 800, .inl (fun _ => 0))), (q4, .inl (cI, 800, .inl (fun _ => 0)))] := hD
  refine lv_aload_n hx hb d_Rows_init_39 rfl (lv_at hl 0 rfl) ?_
  refine lv_iconst (v := 0) hx hb d_Rows_init_40 (by decide) ?_
  refine va_put (D := G) (ci := 3) (v := .int 0) (ty := .int) (C := "PlaceMoves$Rows") (T := F_Rows) (N := 5) hx hb hts i_Rows t_Rows t_Rows_ok n_Rows hown hK.1 hP hD hS 0 rfl rfl 4 (by decide) (hts _ w_93) (fun _ h9 => h9) rfl (by decide +kernel) rfl rfl (Nat.le_of_ble_eq_true rfl) d_Rows_init_41 (fun H locs hP hD hS => ?_)
  have hP : va_P G clX [(h0, .inr (3, [.ref q1, .ref q2, .ref q3, .ref q4, .int 0])), (q1, .inl (cI, 20, .inl (fun _ => 0))), (q2, .inl (cI, 800, .inl (fun _ => 0))), (q3, .inl (cI, 800, .inl (fun _ => 0))), (q4, .inl (cI, 800, .inl (fun _ => 0)))] H := hP
  have hD : va_D A [(h0, .inr (3, [.ref q1, .ref q2, .ref q3, .ref q4, .int 0])), (q1, .inl (cI, 20, .inl (fun _ => 0))), (q2, .inl (cI, 800, .inl (fun _ => 0))), (q3, .inl (cI, 800, .inl (fun _ => 0))), (q4, .inl (cI, 800, .inl (fun _ => 0)))] := hD
  obtain ⟨ad, had⟩ : ∃ ad : Nat → Nat, ad = fun k => [0, 0, 0, h0, 0, 0, 0, 0, 0, 0, 0, 0, 0, 0, 0, 0, 0, q1, q2, q3, q4].getD k 0 := ⟨_, rfl⟩
  have hP9 : va_P G clX (wl_ctor_Rows cI cZ ad) H := by rw [had]; exact hP.sub [0, 1, 2, 3, 4] rfl
  have hD9 : va_D A (wl_ctor_Rows cI cZ ad) := by rw [had]; exact hD.sub [0, 1, 2, 3, 4] (by decide) rfl
  subst hAe
  refine W.widen (k := 4) (n := 2420) (by decide) (by decide) ?_
  exact W.vret hx hb hr (fun t ht hZ => ⟨⟨ad, rfl, by rw [had]; rfl, by rw [ht]; exact hP9, hD9⟩, hS.F ht⟩) hS.2.2 d_Rows_init_44
abbrev wl_Doors_init : List Cond := .code ⟨"PlaceMoves$Doors", "<init>", "()V"⟩ prog_2_method_1_code 1 none :: WG
set_option maxHeartbeats 4000000 in
set_option maxRecDepth 100000 in
theorem c_Doors_init (l : Launch) (G : va_G) (cI cZ : ClassId) (h0 sz : Nat) : Met l ⟨"PlaceMoves$Doors", "<init>", "()V"⟩ wl_Doors_init ({ frames := 1, cells := 4, slots := 160, locals := 12 } : Room) (PcC G cI cZ sz h0 [(h0, .inr (4, [.null, .null, .null, .null, .int 0]))]) (QC G h0 4 [(h0, .inr (4, [.null, .null, .null, .null, .int 0]))] sz (wl_ctor_Doors cI cZ)) 4 160 (va_A [(h0, .inr (4, [.null, .null, .null, .null, .int 0]))] sz) := by
  refine Met.ofW (cc := prog_2_method_1_code) (maxL := 1) (ret := none) (by decide) rfl ?_
  intro p e s m args below meth c s₁ B hml hv
  obtain ⟨rfl, hsz, hP, hD0, hK⟩ := hv
  have hx := B.exec
  have hb := B.bytes
  have hr := B.returns
  have hts0 := atoms_spec (ws := wl_Doors_init) B.pre
  have hts : ∀ w ∈ WG, w.before _ s = true := fun w hw => hts0 w (List.mem_cons_of_mem _ hw)
  have hown : s.vm.findClass "PlaceMoves$Doors" = some m.cls := findClass_of_methodNamed B.named
  have hlocks := B.notSynchronized
  have hin : meth.name = "<init>" := (name_of_methodNamed B.named B.method).1
  have C : CX "PlaceMoves$Doors" prog_2_method_1_code p s m _ c G cI cZ := ⟨hx, hb, hown, hts, hK⟩
  subst hsz
  have hD := hD0.self (sz := s.heap.size)
  generalize hAe : va_A [(h0, .inr (4, [.null, .null, .null, .null, .int 0]))] s.heap.size = A at hD ⊢
  have hA : ∀ q : Nat, s.heap.size ≤ q → A q := fun q h => by rw [← hAe]; exact Or.inr h
  have hS : va_S A s.heap s.heap [] := va_S.rf
  have hP : va_P G clX [(h0, .inr (4, [.null, .null, .null, .null, .int 0]))] s.heap := hP
  have hl := lv_entry ([.ref h0]) (n := 1) (Nat.le_of_ble_eq_true rfl)
  rw [lg_entry_eq]
  generalize (lg_sl ([.ref h0]) ++ List.replicate (1 - (lg_sl ([.ref h0])).length) Slot.unset).toArray = ls at hl ⊢
  have hl : lv_has ls 1 [(0, .ref h0)] := hl
  refine lv_aload_n hx hb d_Doors_init_0 rfl (lv_at hl 0 rfl) ?_
  refine W.objInit hx hb hown (hts _ w_111) (hts _ w_22) (hts _ w_23) rfl (by rw [hml]; exact hl.1) rfl d_Doors_init_1 (Nat.le_of_ble_eq_true rfl) (Nat.le_of_ble_eq_true rfl) ?_
  refine W.eq (g2 := F0 m 4 ls []) rfl ?_
  refine lv_aload_n hx hb d_Doors_init_4 rfl (lv_at hl 0 rfl) ?_
  refine lv_bipush (v := 40) hx hb d_Doors_init_5 (by decide) ?_
  refine nwI C hP hD hS hA (N := 40) (by decide) (by decide) (by decide) (by decide) (by decide) d_Doors_init_7 (fun q1 H hP hD hS => ?_)
  have hP : va_P G clX [(h0, .inr (4, [.null, .null, .null, .null, .int 0])), (q1, .inl (cI, 40, .inl (fun _ => 0)))] H := hP
  have hD : va_D A [(h0, .inr (4, [.null, .null, .null, .null, .int 0])), (q1, .inl (cI, 40, .inl (fun _ => 0)))] := hD
  refine va_putF (D := G) (ci := 4) (v := .ref q1) (ty := .array .int) (C := "PlaceMoves$Doors") (T := F_Doors) (N := 5) hx hb hts i_Doors t_Doors t_Doors_ok n_Doors hown hK.1 hP hD hS 0 rfl rfl 0 (by decide) (hts _ w_112) (fun _ h9 => h9) rfl hin rfl (by decide +kernel) rfl rfl (Nat.le_of_ble_eq_true rfl) d_Doors_init_9 (fun H locs hP hD hS => ?_)
  have hP : va_P G clX [(h0, .inr (4, [.ref q1, .null, .null, .null, .int 0])), (q1, .inl (cI, 40, .inl (fun _ => 0)))] H := hP
  have hD : va_D A [(h0, .inr (4, [.ref q1, .null, .null, .null, .int 0])), (q1, .inl (cI, 40, .inl (fun _ => 0)))] := hD
  refine lv_aload_n hx hb d_Doors_init_12 rfl (lv_at hl 0 rfl) ?_
  refine lv_bipush (v := 40) hx hb d_Doors_init_13 (by decide) ?_
  refine nwI C hP hD hS hA (N := 40) (by decide) (by decide) (by decide) (by decide) (by decide) d_Doors_init_15 (fun q2 H hP hD hS => ?_)
  have hP : va_P G clX [(h0, .inr (4, [.ref q1, .null, .null, .null, .int 0])), (q1, .inl (cI, 40, .inl (fun _ => 0))), (q2, .inl (cI, 40, .inl (fun _ => 0)))] H := hP
  have hD : va_D A [(h0, .inr (4, [.ref q1, .null, .null, .null, .int 0])), (q1, .inl (cI, 40, .inl (fun _ => 0))), (q2, .inl (cI, 40, .inl (fun _ => 0)))] := hD
  refine va_putF (D := G) (ci := 4) (v := .ref q2) (ty := .array .int) (C := "PlaceMoves$Doors") (T := F_Doors) (N := 5) hx hb hts i_Doors t_Doors t_Doors_ok n_Doors hown hK.1 hP hD hS 0 rfl rfl 1 (by decide) (hts _ w_113) (fun _ h9 => h9) rfl hin rfl (by decide +kernel) rfl rfl (Nat.le_of_ble_eq_true rfl) d_Doors_init_17 (fun H locs hP hD hS => ?_)
  have hP : va_P G clX [(h0, .inr (4, [.ref q1, .ref q2, .null, .null, .int 0])), (q1, .inl (cI, 40, .inl (fun _ => 0))), (q2, .inl (cI, 40, .inl (fun _ => 0)))] H := hP
  have hD : va_D A [(h0, .inr (4, [.ref q1, .ref q2, .null, .null, .int 0])), (q1, .inl (cI, 40, .inl (fun _ => 0))), (q2, .inl (cI, 40, .inl (fun _ => 0)))] := hD
  refine lv_aload_n hx hb d_Doors_init_20 rfl (lv_at hl 0 rfl) ?_
  refine lv_bipush (v := 40) hx hb d_Doors_init_21 (by decide) ?_
  refine nwI C hP hD hS hA (N := 40) (by decide) (by decide) (by decide) (by decide) (by decide) d_Doors_init_23 (fun q3 H hP hD hS => ?_)
  have hP : va_P G clX [(h0, .inr (4, [.ref q1, .ref q2, .null, .null, .int 0])), (q1, .inl (cI, 40, .inl (fun _ => 0))), (q2, .inl (cI, 40, .inl (fun _ => 0))), (q3, .inl (cI, 40, .inl (fun _ => 0)))] H := hP
  have hD : va_D A [(h0, .inr (4, [.ref q1, .ref q2, .null, .null, .int 0])), (q1, .inl (cI, 40, .inl (fun _ => 0))), (q2, .inl (cI, 40, .inl (fun _ => 0))), (q3, .inl (cI, 40, .inl (fun _ => 0)))] := hD
  refine va_putF (D := G) (ci := 4) (v := .ref q3) (ty := .array .int) (C := "PlaceMoves$Doors") (T := F_Doors) (N := 5) hx hb hts i_Doors t_Doors t_Doors_ok n_Doors hown hK.1 hP hD hS 0 rfl rfl 2 (by decide) (hts _ w_114) (fun _ h9 => h9) rfl hin rfl (by decide +kernel) rfl rfl (Nat.le_of_ble_eq_true rfl) d_Doors_init_25 (fun H locs hP hD hS => ?_)
  have hP : va_P G clX [(h0, .inr (4, [.ref q1, .ref q2, .ref q3, .null, .int 0])), (q1, .inl (cI, 40, .inl (fun _ => 0))), (q2, .inl (cI, 40, .inl (fun _ => 0))), (q3, .inl (cI, 40, .inl (fun _ => 0)))] H := hP
  have hD : va_D A [(h0, .inr (4, [.ref q1, .ref q2, .ref q3, .null, .int 0])), (q1, .inl (cI, 40, .inl (fun _ => 0))), (q2, .inl (cI, 40, .inl (fun _ => 0))), (q3, .inl (cI, 40, .inl (fun _ => 0)))] := hD
  refine lv_aload_n hx hb d_Doors_init_28 rfl (lv_at hl 0 rfl) ?_
  refine lv_bipush (v := 40) hx hb d_Doors_init_29 (by decide) ?_
  refine nwI C hP hD hS hA (N := 40) (by decide) (by decide) (by decide) (by decide) (by decide) d_Doors_init_31 (fun q4 H hP hD hS => ?_)
  have hP : va_P G clX [(h0, .inr (4, [.ref q1, .ref q2, .ref q3, .null, .int 0])), (q1, .inl (cI, 40, .inl (fun _ => 0))), (q2, .inl (cI, 40, .inl (fun _ => 0))), (q3, .inl (cI, 40, .inl (fun _ => 0))), (q4, .inl (cI, 40, .inl (fun _ => 0)))] H := hP
  have hD : va_D A [(h0, .inr (4, [.ref q1, .ref q2, .ref q3, .null, .int 0])), (q1, .inl (cI, 40, .inl (fun _ => 0))), (q2, .inl (cI, 40, .inl (fun _ => 0))), (q3, .inl (cI, 40, .inl (fun _ => 0))), (q4, .inl (cI, 40, .inl (fun _ => 0)))] := hD
  refine va_putF (D := G) (ci := 4) (v := .ref q4) (ty := .array .int) (C := "PlaceMoves$Doors") (T := F_Doors) (N := 5) hx hb hts i_Doors t_Doors t_Doors_ok n_Doors hown hK.1 hP hD hS 0 rfl rfl 3 (by decide) (hts _ w_115) (fun _ h9 => h9) rfl hin rfl (by decide +kernel) rfl rfl (Nat.le_of_ble_eq_true rfl) d_Doors_init_33 (fun H locs hP hD hS => ?_)
  have hP : va_P G clX [(h0, .inr (4, [.ref q1, .ref q2, .ref q3, .ref q4, .int 0])), (q1, .inl (cI, 40, .inl (fun _ => 0))), (q2, .inl (cI, 40, .inl (fun _ => 0))), (q3, .inl (cI, 40, .inl (fun _ => 0))), (q4, .inl (cI, 40, .inl (fun _ => 0)))] H := hP
  have hD : va_D A [(h0, .inr (4, [.ref q1, .ref q2, .ref q3, .ref q4, .int 0])), (q1, .inl (cI, 40, .inl (fun _ => 0))), (q2, .inl (cI, 40, .inl (fun _ => 0))), (q3, .inl (cI, 40, .inl (fun _ => 0))), (q4, .inl (cI, 40, .inl (fun _ => 0)))] := hD
  refine lv_aload_n hx hb d_Doors_init_36 rfl (lv_at hl 0 rfl) ?_
  refine lv_iconst (v := 0) hx hb d_Doors_init_37 (by decide) ?_
  refine va_put (D := G) (ci := 4) (v := .int 0) (ty := .int) (C := "PlaceMoves$Doors") (T := F_Doors) (N := 5) hx hb hts i_Doors t_Doors t_Doors_ok n_Doors hown hK.1 hP hD hS 0 rfl rfl 4 (by decide) (hts _ w_116) (fun _ h9 => h9) rfl (by decide +kernel) rfl rfl (Nat.le_of_ble_eq_true rfl) d_Doors_init_38 (fun H locs hP hD hS => ?_)
  have hP : va_P G clX [(h0, .inr (4, [.ref q1, .ref q2, .ref q3, .ref q4, .int 0])), (q1, .inl (cI, 40, .inl (fun _ => 0))), (q2, .inl (cI, 40, .inl (fun _ => 0))), (q3, .inl (cI, 40, .inl (fun _ => 0))), (q4, .inl (cI, 40, .inl (fun _ => 0)))] H := hP
  have hD : va_D A [(h0, .inr (4, [.ref q1, .ref q2, .ref q3, .ref q4, .int 0])), (q1, .inl (cI, 40, .inl (fun _ => 0))), (q2, .inl (cI, 40, .inl (fun _ => 0))), (q3, .inl (cI, 40, .inl (fun _ => 0))), (q4, .inl (cI, 40, .inl (fun _ => 0)))] := hD
  obtain ⟨ad, had⟩ : ∃ ad : Nat → Nat, ad = fun k => [0, 0, 0, 0, h0, 0, 0, 0, 0, 0, 0, 0, 0, 0, 0, 0, 0, 0, 0, 0, 0, q1, q2, q3, q4].getD k 0 := ⟨_, rfl⟩
  have hP9 : va_P G clX (wl_ctor_Doors cI cZ ad) H := by rw [had]; exact hP.sub [0, 1, 2, 3, 4] rfl
  have hD9 : va_D A (wl_ctor_Doors cI cZ ad) := by rw [had]; exact hD.sub [0, 1, 2, 3, 4] (by decide) rfl
  subst hAe
  refine W.widen (k := 4) (n := 160) (by decide) (by decide) ?_
  exact W.vret hx hb hr (fun t ht hZ => ⟨⟨ad, rfl, by rw [had]; rfl, by rw [ht]; exact hP9, hD9⟩, hS.F ht⟩) hS.2.2 d_Doors_init_41
abbrev wl_Plans_init : List Cond := .code ⟨"PlaceMoves$Plans", "<init>", "()V"⟩ prog_4_method_1_code 1 none :: WG
set_option maxHeartbeats 4000000 in
set_option maxRecDepth 100000 in
theorem c_Plans_init (l : Launch) (G : va_G) (cI cZ : ClassId) (h0 sz : Nat) : Met l ⟨"PlaceMoves$Plans", "<init>", "()V"⟩ wl_Plans_init ({ frames := 1, cells := 4, slots := 120, locals := 12 } : Room) (PcC G cI cZ sz h0 [(h0, .inr (5, [.null, .null, .null, .null, .int 0]))]) (QC G h0 5 [(h0, .inr (5, [.null, .null, .null, .null, .int 0]))] sz (wl_ctor_Plans cI cZ)) 4 120 (va_A [(h0, .inr (5, [.null, .null, .null, .null, .int 0]))] sz) := by
  refine Met.ofW (cc := prog_4_method_1_code) (maxL := 1) (ret := none) (by decide) rfl ?_
  intro p e s m args below meth c s₁ B hml hv
  obtain ⟨rfl, hsz, hP, hD0, hK⟩ := hv
  have hx := B.exec
  have hb := B.bytes
  have hr := B.returns
  have hts0 := atoms_spec (ws := wl_Plans_init) B.pre
  have hts : ∀ w ∈ WG, w.before _ s = true := fun w hw => hts0 w (List.mem_cons_of_mem _ hw)
  have hown : s.vm.findClass "PlaceMoves$Plans" = some m.cls := findClass_of_methodNamed B.named
  have hlocks := B.notSynchronized
  have hin : meth.name = "<init>" := (name_of_methodNamed B.named B.method).1
  have C : CX "PlaceMoves$Plans" prog_4_method_1_code p s m _ c G cI cZ := ⟨hx, hb, hown, hts, hK⟩
  subst hsz
  have hD := hD0.self (sz := s.heap.size)
  generalize hAe : va_A [(h0, .inr (5, [.null, .null, .null, .null, .int 0]))] s.heap.size = A at hD ⊢
  have hA : ∀ q : Nat, s.heap.size ≤ q → A q := fun q h => by rw [← hAe]; exact Or.inr h
  have hS : va_S A s.heap s.heap [] := va_S.rf
  have hP : va_P G clX [(h0, .inr (5, [.null, .null, .null, .null, .int 0]))] s.heap := hP
  have hl := lv_entry ([.ref h0]) (n := 1) (Nat.le_of_ble_eq_true rfl)
  rw [lg_entry_eq]
  generalize (lg_sl ([.ref h0]) ++ List.replicate (1 - (lg_sl ([.ref h0])).length) Slot.unset).toArray = ls at hl ⊢
  have hl : lv_has ls 1 [(0, .ref h0)] := hl
  refine lv_aload_n hx hb d_Plans_init_0 rfl (lv_at hl 0 rfl) ?_
  refine W.objInit hx hb hown (hts _ w_134) (hts _ w_22) (hts _ w_23) rfl (by rw [hml]; exact hl.1) rfl d_Plans_init_1 (Nat.le_of_ble_eq_true rfl) (Nat.le_of_ble_eq_true rfl) ?_
  refine W.eq (g2 := F0 m 4 ls []) rfl ?_
  refine lv_aload_n hx hb d_Plans_init_4 rfl (lv_at hl 0 rfl) ?_
  refine lv_bipush (v := 30) hx hb d_Plans_init_5 (by decide) ?_
  refine nwI C hP hD hS hA (N := 30) (by decide) (by decide) (by decide) (by decide) (by decide) d_Plans_init_7 (fun q1 H hP hD hS => ?_)
  have hP : va_P G clX [(h0, .inr (5, [.null, .null, .null, .null, .int 0])), (q1, .inl (cI, 30, .inl (fun _ => 0)))] H := hP
  have hD : va_D A [(h0, .inr (5, [.null, .null, .null, .null, .int 0])), (q1, .inl (cI, 30, .inl (fun _ => 0)))] := hD
  refine va_putF (D := G) (ci := 5) (v := .ref q1) (ty := .array .int) (C := "PlaceMoves$Plans") (T := F_Plans) (N := 5) hx hb hts i_Plans t_Plans t_Plans_ok n_Plans hown hK.1 hP hD hS 0 rfl rfl 0 (by decide) (hts _ w_135) (fun _ h9 => h9) rfl hin rfl (by decide +kernel) rfl rfl (Nat.le_of_ble_eq_true rfl) d_Plans_init_9 (fun H locs hP hD hS => ?_)
  have hP : va_P G clX [(h0, .inr (5, [.ref q1, .null, .null, .null, .int 0])), (q1, .inl (cI, 30, .inl (fun _ => 0)))] H := hP
  have hD : va_D A [(h0, .inr (5, [.ref q1, .null, .null, .null, .int 0])), (q1, .inl (cI, 30, .inl (fun _ => 0)))] := hD
  refine lv_aload_n hx hb d_Plans_init_12 rfl (lv_at hl 0 rfl) ?_
  refine lv_bipush (v := 30) hx hb d_Plans_init_13 (by decide) ?_
  refine nwI C hP hD hS hA (N := 30) (by decide) (by decide) (by decide) (by decide) (by decide) d_Plans_init_15 (fun q2 H hP hD hS => ?_)
  have hP : va_P G clX [(h0, .inr (5, [.ref q1, .null, .null, .null, .int 0])), (q1, .inl (cI, 30, .inl (fun _ => 0))), (q2, .inl (cI, 30, .inl (fun _ => 0)))] H := hP
  have hD : va_D A [(h0, .inr (5, [.ref q1, .null, .null, .null, .int 0])), (q1, .inl (cI, 30, .inl (fun _ => 0))), (q2, .inl (cI, 30, .inl (fun _ => 0)))] := hD
  refine va_putF (D := G) (ci := 5) (v := .ref q2) (ty := .array .int) (C := "PlaceMoves$Plans") (T := F_Plans) (N := 5) hx hb hts i_Plans t_Plans t_Plans_ok n_Plans hown hK.1 hP hD hS 0 rfl rfl 1 (by decide) (hts _ w_137) (fun _ h9 => h9) rfl hin rfl (by decide +kernel) rfl rfl (Nat.le_of_ble_eq_true rfl) d_Plans_init_17 (fun H locs hP hD hS => ?_)
  have hP : va_P G clX [(h0, .inr (5, [.ref q1, .ref q2, .null, .null, .int 0])), (q1, .inl (cI, 30, .inl (fun _ => 0))), (q2, .inl (cI, 30, .inl (fun _ => 0)))] H := hP
  have hD : va_D A [(h0, .inr (5, [.ref q1, .ref q2, .null, .null, .int 0])), (q1, .inl (cI, 30, .inl (fun _ => 0))), (q2, .inl (cI, 30, .inl (fun _ => 0)))] := hD
  refine lv_aload_n hx hb d_Plans_init_20 rfl (lv_at hl 0 rfl) ?_
  refine lv_bipush (v := 30) hx hb d_Plans_init_21 (by decide) ?_
  refine nwI C hP hD hS hA (N := 30) (by decide) (by decide) (by decide) (by decide) (by decide) d_Plans_init_23 (fun q3 H hP hD hS => ?_)
  have hP : va_P G clX [(h0, .inr (5, [.ref q1, .ref q2, .null, .null, .int 0])), (q1, .inl (cI, 30, .inl (fun _ => 0))), (q2, .inl (cI, 30, .inl (fun _ => 0))), (q3, .inl (cI, 30, .inl (fun _ => 0)))] H := hP
  have hD : va_D A [(h0, .inr (5, [.ref q1, .ref q2, .null, .null, .int 0])), (q1, .inl (cI, 30, .inl (fun _ => 0))), (q2, .inl (cI, 30, .inl (fun _ => 0))), (q3, .inl (cI, 30, .inl (fun _ => 0)))] := hD
  refine va_putF (D := G) (ci := 5) (v := .ref q3) (ty := .array .int) (C := "PlaceMoves$Plans") (T := F_Plans) (N := 5) hx hb hts i_Plans t_Plans t_Plans_ok n_Plans hown hK.1 hP hD hS 0 rfl rfl 2 (by decide) (hts _ w_139) (fun _ h9 => h9) rfl hin rfl (by decide +kernel) rfl rfl (Nat.le_of_ble_eq_true rfl) d_Plans_init_25 (fun H locs hP hD hS => ?_)
  have hP : va_P G clX [(h0, .inr (5, [.ref q1, .ref q2, .ref q3, .null, .int 0])), (q1, .inl (cI, 30, .inl (fun _ => 0))), (q2, .inl (cI, 30, .inl (fun _ => 0))), (q3, .inl (cI, 30, .inl (fun _ => 0)))] H := hP
  have hD : va_D A [(h0, .inr (5, [.ref q1, .ref q2, .ref q3, .null, .int 0])), (q1, .inl (cI, 30, .inl (fun _ => 0))), (q2, .inl (cI, 30, .inl (fun _ => 0))), (q3, .inl (cI, 30, .inl (fun _ => 0)))] := hD
  refine lv_aload_n hx hb d_Plans_init_28 rfl (lv_at hl 0 rfl) ?_
  refine lv_bipush (v := 30) hx hb d_Plans_init_29 (by decide) ?_
  refine nwI C hP hD hS hA (N := 30) (by decide) (by decide) (by decide) (by decide) (by decide) d_Plans_init_31 (fun q4 H hP hD hS => ?_)
  have hP : va_P G clX [(h0, .inr (5, [.ref q1, .ref q2, .ref q3, .null, .int 0])), (q1, .inl (cI, 30, .inl (fun _ => 0))), (q2, .inl (cI, 30, .inl (fun _ => 0))), (q3, .inl (cI, 30, .inl (fun _ => 0))), (q4, .inl (cI, 30, .inl (fun _ => 0)))] H := hP
  have hD : va_D A [(h0, .inr (5, [.ref q1, .ref q2, .ref q3, .null, .int 0])), (q1, .inl (cI, 30, .inl (fun _ => 0))), (q2, .inl (cI, 30, .inl (fun _ => 0))), (q3, .inl (cI, 30, .inl (fun _ => 0))), (q4, .inl (cI, 30, .inl (fun _ => 0)))] := hD
  refine va_putF (D := G) (ci := 5) (v := .ref q4) (ty := .array .int) (C := "PlaceMoves$Plans") (T := F_Plans) (N := 5) hx hb hts i_Plans t_Plans t_Plans_ok n_Plans hown hK.1 hP hD hS 0 rfl rfl 3 (by decide) (hts _ w_141) (fun _ h9 => h9) rfl hin rfl (by decide +kernel) rfl rfl (Nat.le_of_ble_eq_true rfl) d_Plans_init_33 (fun H locs hP hD hS => ?_)
  have hP : va_P G clX [(h0, .inr (5, [.ref q1, .ref q2, .ref q3, .ref q4, .int 0])), (q1, .inl (cI, 30, .inl (fun _ => 0))), (q2, .inl (cI, 30, .inl (fun _ => 0))), (q3, .inl (cI, 30, .inl (fun _ => 0))), (q4, .inl (cI, 30, .inl (fun _ => 0)))] H := hP
  have hD : va_D A [(h0, .inr (5, [.ref q1, .ref q2, .ref q3, .ref q4, .int 0])), (q1, .inl (cI, 30, .inl (fun _ => 0))), (q2, .inl (cI, 30, .inl (fun _ => 0))), (q3, .inl (cI, 30, .inl (fun _ => 0))), (q4, .inl (cI, 30, .inl (fun _ => 0)))] := hD
  refine lv_aload_n hx hb d_Plans_init_36 rfl (lv_at hl 0 rfl) ?_
  refine lv_iconst (v := 0) hx hb d_Plans_init_37 (by decide) ?_
  refine va_put (D := G) (ci := 5) (v := .int 0) (ty := .int) (C := "PlaceMoves$Plans") (T := F_Plans) (N := 5) hx hb hts i_Plans t_Plans t_Plans_ok n_Plans hown hK.1 hP hD hS 0 rfl rfl 4 (by decide) (hts _ w_142) (fun _ h9 => h9) rfl (by decide +kernel) rfl rfl (Nat.le_of_ble_eq_true rfl) d_Plans_init_38 (fun H locs hP hD hS => ?_)
  have hP : va_P G clX [(h0, .inr (5, [.ref q1, .ref q2, .ref q3, .ref q4, .int 0])), (q1, .inl (cI, 30, .inl (fun _ => 0))), (q2, .inl (cI, 30, .inl (fun _ => 0))), (q3, .inl (cI, 30, .inl (fun _ => 0))), (q4, .inl (cI, 30, .inl (fun _ => 0)))] H := hP
  have hD : va_D A [(h0, .inr (5, [.ref q1, .ref q2, .ref q3, .ref q4, .int 0])), (q1, .inl (cI, 30, .inl (fun _ => 0))), (q2, .inl (cI, 30, .inl (fun _ => 0))), (q3, .inl (cI, 30, .inl (fun _ => 0))), (q4, .inl (cI, 30, .inl (fun _ => 0)))] := hD
  obtain ⟨ad, had⟩ : ∃ ad : Nat → Nat, ad = fun k => [0, 0, 0, 0, 0, h0, 0, 0, 0, 0, 0, 0, 0, 0, 0, 0, 0, 0, 0, 0, 0, 0, 0, 0, 0, q1, q2, q3, q4].getD k 0 := ⟨_, rfl⟩
  have hP9 : va_P G clX (wl_ctor_Plans cI cZ ad) H := by rw [had]; exact hP.sub [0, 1, 2, 3, 4] rfl
  have hD9 : va_D A (wl_ctor_Plans cI cZ ad) := by rw [had]; exact hD.sub [0, 1, 2, 3, 4] (by decide) rfl
  subst hAe
  refine W.widen (k := 4) (n := 120) (by decide) (by decide) ?_
  exact W.vret hx hb hr (fun t ht hZ => ⟨⟨ad, rfl, by rw [had]; rfl, by rw [ht]; exact hP9, hD9⟩, hS.F ht⟩) hS.2.2 d_Plans_init_41
abbrev wl_QuietTimes_init : List Cond := .code ⟨"PlaceMoves$QuietTimes", "<init>", "()V"⟩ prog_5_method_1_code 1 none :: WG
set_option maxHeartbeats 4000000 in
set_option maxRecDepth 100000 in
theorem c_QuietTimes_init (l : Launch) (G : va_G) (cI cZ : ClassId) (h0 sz : Nat) : Met l ⟨"PlaceMoves$QuietTimes", "<init>", "()V"⟩ wl_QuietTimes_init ({ frames := 1, cells := 3, slots := 60, locals := 12 } : Room) (PcC G cI cZ sz h0 [(h0, .inr (6, [.null, .null, .null, .int 0]))]) (QC G h0 6 [(h0, .inr (6, [.null, .null, .null, .int 0]))] sz (wl_ctor_QuietTimes cI cZ)) 3 60 (va_A [(h0, .inr (6, [.null, .null, .null, .int 0]))] sz) := by
  refine Met.ofW (cc := prog_5_method_1_code) (maxL := 1) (ret := none) (by decide) rfl ?_
  intro p e s m args below meth c s₁ B hml hv
  obtain ⟨rfl, hsz, hP, hD0, hK⟩ := hv
  have hx := B.exec
  have hb := B.bytes
  have hr := B.returns
  have hts0 := atoms_spec (ws := wl_QuietTimes_init) B.pre
  have hts : ∀ w ∈ WG, w.before _ s = true := fun w hw => hts0 w (List.mem_cons_of_mem _ hw)
  have hown : s.vm.findClass "PlaceMoves$QuietTimes" = some m.cls := findClass_of_methodNamed B.named
  have hlocks := B.notSynchronized
  have hin : meth.name = "<init>" := (name_of_methodNamed B.named B.method).1
  have C : CX "PlaceMoves$QuietTimes" prog_5_method_1_code p s m _ c G cI cZ := ⟨hx, hb, hown, hts, hK⟩
  subst hsz
  have hD := hD0.self (sz := s.heap.size)
  generalize hAe : va_A [(h0, .inr (6, [.null, .null, .null, .int 0]))] s.heap.size = A at hD ⊢
  have hA : ∀ q : Nat, s.heap.size ≤ q → A q := fun q h => by rw [← hAe]; exact Or.inr h
  have hS : va_S A s.heap s.heap [] := va_S.rf
  have hP : va_P G clX [(h0, .inr (6, [.null, .null, .null, .int 0]))] s.heap := hP
  have hl := lv_entry ([.ref h0]) (n := 1) (Nat.le_of_ble_eq_true rfl)
  rw [lg_entry_eq]
  generalize (lg_sl ([.ref h0]) ++ List.replicate (1 - (lg_sl ([.ref h0])).length) Slot.unset).toArray = ls at hl ⊢
  have hl : lv_has ls 1 [(0, .ref h0)] := hl
  refine lv_aload_n hx hb d_QuietTimes_init_0 rfl (lv_at hl 0 rfl) ?_
  refine W.objInit hx hb hown (hts _ w_160) (hts _ w_22) (hts _ w_23) rfl (by rw [hml]; exact hl.1) rfl d_QuietTimes_init_1 (Nat.le_of_ble_eq_true rfl) (Nat.le_of_ble_eq_true rfl) ?_
  refine W.eq (g2 := F0 m 4 ls []) rfl ?_
  refine lv_aload_n hx hb d_QuietTimes_init_4 rfl (lv_at hl 0 rfl) ?_
  refine lv_bipush (v := 20) hx hb d_QuietTimes_init_5 (by decide) ?_
  refine nwI C hP hD hS hA (N := 20) (by decide) (by decide) (by decide) (by decide) (by decide) d_QuietTimes_init_7 (fun q1 H hP hD hS => ?_)
  have hP : va_P G clX [(h0, .inr (6, [.null, .null, .null, .int 0])), (q1, .inl (cI, 20, .inl (fun _ => 0)))] H := hP
  have hD : va_D A [(h0, .inr (6, [.null, .null, .null, .int 0])), (q1, .inl (cI, 20, .inl (fun _ => 0)))] := hD
  refine va_putF (D := G) (ci := 6) (v := .ref q1) (ty := .array .int) (C := "PlaceMoves$QuietTimes") (T := F_QuietTimes) (N := 4) hx hb hts i_QuietTimes t_QuietTimes t_QuietTimes_ok n_QuietTimes hown hK.1 hP hD hS 0 rfl rfl 0 (by decide) (hts _ w_161) (fun _ h9 => h9) rfl hin rfl (by decide +kernel) rfl rfl (Nat.le_of_ble_eq_true rfl) d_QuietTimes_init_9 (fun H locs hP hD hS => ?_)
  have hP : va_P G clX [(h0, .inr (6, [.ref q1, .null, .null, .int 0])), (q1, .inl (cI, 20, .inl (fun _ => 0)))] H := hP
  have hD : va_D A [(h0, .inr (6, [.ref q1, .null, .null, .int 0])), (q1, .inl (cI, 20, .inl (fun _ => 0)))] := hD
  refine lv_aload_n hx hb d_QuietTimes_init_12 rfl (lv_at hl 0 rfl) ?_
  refine lv_bipush (v := 20) hx hb d_QuietTimes_init_13 (by decide) ?_
  refine nwI C hP hD hS hA (N := 20) (by decide) (by decide) (by decide) (by decide) (by decide) d_QuietTimes_init_15 (fun q2 H hP hD hS => ?_)
  have hP : va_P G clX [(h0, .inr (6, [.ref q1, .null, .null, .int 0])), (q1, .inl (cI, 20, .inl (fun _ => 0))), (q2, .inl (cI, 20, .inl (fun _ => 0)))] H := hP
  have hD : va_D A [(h0, .inr (6, [.ref q1, .null, .null, .int 0])), (q1, .inl (cI, 20, .inl (fun _ => 0))), (q2, .inl (cI, 20, .inl (fun _ => 0)))] := hD
  refine va_putF (D := G) (ci := 6) (v := .ref q2) (ty := .array .int) (C := "PlaceMoves$QuietTimes") (T := F_QuietTimes) (N := 4) hx hb hts i_QuietTimes t_QuietTimes t_QuietTimes_ok n_QuietTimes hown hK.1 hP hD hS 0 rfl rfl 1 (by decide) (hts _ w_163) (fun _ h9 => h9) rfl hin rfl (by decide +kernel) rfl rfl (Nat.le_of_ble_eq_true rfl) d_QuietTimes_init_17 (fun H locs hP hD hS => ?_)
  have hP : va_P G clX [(h0, .inr (6, [.ref q1, .ref q2, .null, .int 0])), (q1, .inl (cI, 20, .inl (fun _ => 0))), (q2, .inl (cI, 20, .inl (fun _ => 0)))] H := hP
  have hD : va_D A [(h0, .inr (6, [.ref q1, .ref q2, .null, .int 0])), (q1, .inl (cI, 20, .inl (fun _ => 0))), (q2, .inl (cI, 20, .inl (fun _ => 0)))] := hD
  refine lv_aload_n hx hb d_QuietTimes_init_20 rfl (lv_at hl 0 rfl) ?_
  refine lv_bipush (v := 20) hx hb d_QuietTimes_init_21 (by decide) ?_
  refine nwI C hP hD hS hA (N := 20) (by decide) (by decide) (by decide) (by decide) (by decide) d_QuietTimes_init_23 (fun q3 H hP hD hS => ?_)
  have hP : va_P G clX [(h0, .inr (6, [.ref q1, .ref q2, .null, .int 0])), (q1, .inl (cI, 20, .inl (fun _ => 0))), (q2, .inl (cI, 20, .inl (fun _ => 0))), (q3, .inl (cI, 20, .inl (fun _ => 0)))] H := hP
  have hD : va_D A [(h0, .inr (6, [.ref q1, .ref q2, .null, .int 0])), (q1, .inl (cI, 20, .inl (fun _ => 0))), (q2, .inl (cI, 20, .inl (fun _ => 0))), (q3, .inl (cI, 20, .inl (fun _ => 0)))] := hD
  refine va_putF (D := G) (ci := 6) (v := .ref q3) (ty := .array .int) (C := "PlaceMoves$QuietTimes") (T := F_QuietTimes) (N := 4) hx hb hts i_QuietTimes t_QuietTimes t_QuietTimes_ok n_QuietTimes hown hK.1 hP hD hS 0 rfl rfl 2 (by decide) (hts _ w_164) (fun _ h9 => h9) rfl hin rfl (by decide +kernel) rfl rfl (Nat.le_of_ble_eq_true rfl) d_QuietTimes_init_25 (fun H locs hP hD hS => ?_)
  have hP : va_P G clX [(h0, .inr (6, [.ref q1, .ref q2, .ref q3, .int 0])), (q1, .inl (cI, 20, .inl (fun _ => 0))), (q2, .inl (cI, 20, .inl (fun _ => 0))), (q3, .inl (cI, 20, .inl (fun _ => 0)))] H := hP
  have hD : va_D A [(h0, .inr (6, [.ref q1, .ref q2, .ref q3, .int 0])), (q1, .inl (cI, 20, .inl (fun _ => 0))), (q2, .inl (cI, 20, .inl (fun _ => 0))), (q3, .inl (cI, 20, .inl (fun _ => 0)))] := hD
  refine lv_aload_n hx hb d_QuietTimes_init_28 rfl (lv_at hl 0 rfl) ?_
  refine lv_iconst (v := 0) hx hb d_QuietTimes_init_29 (by decide) ?_
  refine va_put (D := G) (ci := 6) (v := .int 0) (ty := .int) (C := "PlaceMoves$QuietTimes") (T := F_QuietTimes) (N := 4) hx hb hts i_QuietTimes t_QuietTimes t_QuietTimes_ok n_QuietTimes hown hK.1 hP hD hS 0 rfl rfl 3 (by decide) (hts _ w_165) (fun _ h9 => h9) rfl (by decide +kernel) rfl rfl (Nat.le_of_ble_eq_true rfl) d_QuietTimes_init_30 (fun H locs hP hD hS => ?_)
  have hP : va_P G clX [(h0, .inr (6, [.ref q1, .ref q2, .ref q3, .int 0])), (q1, .inl (cI, 20, .inl (fun _ => 0))), (q2, .inl (cI, 20, .inl (fun _ => 0))), (q3, .inl (cI, 20, .inl (fun _ => 0)))] H := hP
  have hD : va_D A [(h0, .inr (6, [.ref q1, .ref q2, .ref q3, .int 0])), (q1, .inl (cI, 20, .inl (fun _ => 0))), (q2, .inl (cI, 20, .inl (fun _ => 0))), (q3, .inl (cI, 20, .inl (fun _ => 0)))] := hD
  obtain ⟨ad, had⟩ : ∃ ad : Nat → Nat, ad = fun k => [0, 0, 0, 0, 0, 0, h0, 0, 0, 0, 0, 0, 0, 0, 0, 0, 0, 0, 0, 0, 0, 0, 0, 0, 0, 0, 0, 0, 0, q1, q2, q3].getD k 0 := ⟨_, rfl⟩
  have hP9 : va_P G clX (wl_ctor_QuietTimes cI cZ ad) H := by rw [had]; exact hP.sub [0, 1, 2, 3] rfl
  have hD9 : va_D A (wl_ctor_QuietTimes cI cZ ad) := by rw [had]; exact hD.sub [0, 1, 2, 3] (by decide) rfl
  subst hAe
  refine W.widen (k := 3) (n := 60) (by decide) (by decide) ?_
  exact W.vret hx hb hr (fun t ht hZ => ⟨⟨ad, rfl, by rw [had]; rfl, by rw [ht]; exact hP9, hD9⟩, hS.F ht⟩) hS.2.2 d_QuietTimes_init_33
