/-! the law's entry -/
theorem arr_of {args : Array Value} {s : State} {ty : FieldType} (h : (Cond.arrayClass ty).before args s = true) : ∃ cA : ClassId, ArrOfT s cA ty ∧ s.vm.findClass ("[" ++ ty.toString) = some cA := by
  obtain ⟨c, k, comp, h1, h2, h3⟩ := Cond.arrayClass_spec h
  exact ⟨c, fun n z => ⟨fun k h => (by cases h), k, h2, comp, h3⟩, h1⟩
theorem wL_adr (ad : Nat → Nat) (cI cZ cJ : ClassId) (aO : Nat) (am : Nat → Nat) (σ : Sg) (y : Nat → Int64) (τ : Sg) : (wL ad cI cZ cJ aO am σ y τ).map Prod.fst = (List.range 32).map ad ++ aO :: (List.range 24).map am := rfl
theorem wL_at {ad : Nat → Nat} {cI cZ cJ : ClassId} {aO : Nat} {am : Nat → Nat} {σ : Sg} {y : Nat → Int64} {τ : Sg} {i a : Nat} (h : ((List.range 32).map ad ++ aO :: (List.range 24).map am)[i]? = some a) : ∃ e : va_E, (wL ad cI cZ cJ aO am σ y τ)[i]? = some (a, e) := by
  rw [← wL_adr ad cI cZ cJ aO am σ y τ, List.getElem?_map] at h
  cases hq : (wL ad cI cZ cJ aO am σ y τ)[i]? with
  | none => rw [hq] at h; cases h
  | some q =>
    rw [hq] at h
    obtain ⟨q1, q2⟩ := q
    cases h
    exact ⟨q2, rfl⟩
theorem DL.of {b0 : Nat} {ad : Nat → Nat} {cI cZ cJ : ClassId} {aO : Nat} {am : Nat → Nat} {σ : Sg} {y : Nat → Int64} {τ : Sg} (hD : va_D (fun q : Nat => b0 ≤ q) (wL ad cI cZ cJ aO am σ y τ)) : DL b0 ad aO am := by
  have a1 : ∀ k, k < 32 → ((List.range 32).map ad ++ aO :: (List.range 24).map am)[k]? = some (ad k) := fun k hk => by
    rw [List.getElem?_append_left (by simpa using hk), List.getElem?_map, List.getElem?_range hk]; rfl
  have a2 : ((List.range 32).map ad ++ aO :: (List.range 24).map am)[32]? = some aO := by
    rw [List.getElem?_append_right (by simp)]; simp
  have a3 : ∀ k, k < 24 → ((List.range 32).map ad ++ aO :: (List.range 24).map am)[33 + k]? = some (am k) := fun k hk => by
    rw [List.getElem?_append_right (by simp; omega)]
    rw [show 33 + k - ((List.range 32).map ad).length = k + 1 by simp; omega, List.getElem?_cons_succ, List.getElem?_map, List.getElem?_range hk]; rfl
  have u : ∀ {i j a b : Nat}, ((List.range 32).map ad ++ aO :: (List.range 24).map am)[i]? = some a → ((List.range 32).map ad ++ aO :: (List.range 24).map am)[j]? = some b → a = b → i = j := by
    intro i j a b h1 h2 h3
    obtain ⟨e1, q1⟩ := wL_at (cI := cI) (cZ := cZ) (cJ := cJ) (σ := σ) (y := y) (τ := τ) h1
    obtain ⟨e2, q2⟩ := wL_at (cI := cI) (cZ := cZ) (cJ := cJ) (σ := σ) (y := y) (τ := τ) h2
    exact hD.1 i j _ _ q1 q2 h3
  have v : ∀ {i a : Nat}, ((List.range 32).map ad ++ aO :: (List.range 24).map am)[i]? = some a → b0 ≤ a := by
    intro i a h1
    obtain ⟨e1, q1⟩ := wL_at (cI := cI) (cZ := cZ) (cJ := cJ) (σ := σ) (y := y) (τ := τ) h1
    exact hD.2 i _ q1
  refine ⟨⟨fun i j hi hj e => u (a1 i hi) (a1 j hj) e, fun k hk => v (a1 k hk), fun k hk e => ?_, v a2⟩, fun i j hi hj e => ?_, fun k hk => v (a3 k hk), fun k hk e => ?_, fun j k hj hk e => ?_⟩
  · have := u (a1 k hk) a2 e; omega
  · have := u (a3 i hi) (a3 j hj) e; omega
  · have := u (a3 k hk) a2 e; omega
  · have := u (a1 j hj) (a3 k hk) e; omega
theorem nf_in : NFl.all (fun q => decide (NFw q ∈ lw_tbl)) = true := by decide +kernel
theorem nm_in : NMl.all (fun q => decide (NMw q ∈ lw_tbl)) = true := by decide +kernel
theorem dc_in : DCl.all (fun q => decide (Cond.declares q ∈ lw_tbl)) = true := by decide +kernel
theorem cs_in : CSl.all (fun q => decide (Cond.castable q.1 q.2 ∈ lw_tbl)) = true := by decide +kernel
theorem sr_in : SRl.all (fun q => decide (Cond.stringRef q.1 q.2.1 q.2.2 ∈ lw_tbl) && decide (q.1 = "PlaceMoves")) = true := by decide +kernel
theorem nc_in : NCl.all (fun q => decide (Cond.not (.castable q.1 q.2) ∈ flatC (Jvm.Cond.and given_1 narrow_1))) = true := by decide +kernel
theorem all_in {α : Type} {L : List α} {p : α → Prop} {dp : DecidablePred p} (h : L.all (fun q => decide (p q)) = true) : ∀ q ∈ L, p q := fun q hq => by simpa using List.all_eq_true.mp h q hq
set_option maxHeartbeats 8000000 in
set_option maxRecDepth 100000 in
theorem whole_start {p : Program} {e : Env} {s : State} {m : MethodId} {below : List Frame} {meth : Method} {c : Code} (l : Launch) (hfl : l.flags = pinnedFlags ++ [noTraceFlag]) {I : Sg → Sg → Prop} (hI0 : I σ0 τ0) (hI : OkAll I) {b L : Nat} {xs : Nat → Int32} (hL : L ≤ 3072) (C0 : lw_At p s m meth c b L xs) : W p l e room_1 s m #[Value.ref b] below meth c s.heap [] 0 0 (lw_Z below #[Value.ref b] s) (entryFrame m ([Value.ref b] : List Value).toArray 7) := by
  obtain ⟨hx, hb, hr, hml, hown, htl, hX, hbl, hlocks, hgv⟩ := id C0
  have hts : ∀ w ∈ WG, w.before #[Value.ref b] s = true := fun w hw => htl w (List.mem_filter.mp hw).1
  have hfl2 := flat_of_before _ hgv
  have hA : ∀ q : Nat, s.heap.size ≤ q → (fun q : Nat => s.heap.size ≤ q) q := fun _ h => h
  obtain ⟨c0, iS0, hKn0⟩ := u_known (C := "PlaceMoves") (T := F_PM) (N := 9) (n := 9) hts i_PM (hts _ w_17)
  obtain ⟨c1, iS1, hKn1⟩ := u_known (C := "PlaceMoves$Places") (T := F_Places) (N := 3) (n := 3) hts i_Places (hts _ w_25)
  obtain ⟨c2, iS2, hKn2⟩ := u_known (C := "PlaceMoves$Things") (T := F_Things) (N := 7) (n := 7) hts i_Things (hts _ w_44)
  obtain ⟨c3, iS3, hKn3⟩ := u_known (C := "PlaceMoves$Rows") (T := F_Rows) (N := 5) (n := 5) hts i_Rows (hts _ w_80)
  obtain ⟨c4, iS4, hKn4⟩ := u_known (C := "PlaceMoves$Doors") (T := F_Doors) (N := 5) (n := 5) hts i_Doors (hts _ w_107)
  obtain ⟨c5, iS5, hKn5⟩ := u_known (C := "PlaceMoves$Plans") (T := F_Plans) (N := 5) (n := 5) hts i_Plans (hts _ w_130)
  obtain ⟨c6, iS6, hKn6⟩ := u_known (C := "PlaceMoves$QuietTimes") (T := F_QuietTimes) (N := 4) (n := 4) hts i_QuietTimes (hts _ w_156)
  obtain ⟨c7, iS7, hKn7⟩ := u_known (C := "PlaceMovesModel") (T := F_MD) (N := 32) (n := 32) hts i_MD (hts _ w_595)
  obtain ⟨dC, dI, hKc⟩ : ∃ (dC : Nat → ClassId) (dI : Nat → Nat → Nat), ∀ (k : Nat) (q : vw_C), clX[k]? = some q → u_Kn s q.1 q.2.1 q.2.2 (dC k) (dI k) := by
    refine ⟨fun k => if k = 0 then c0 else if k = 1 then c1 else if k = 2 then c2 else if k = 3 then c3 else if k = 4 then c4 else if k = 5 then c5 else if k = 6 then c6 else c7, fun k => if k = 0 then iS0 else if k = 1 then iS1 else if k = 2 then iS2 else if k = 3 then iS3 else if k = 4 then iS4 else if k = 5 then iS5 else if k = 6 then iS6 else iS7, ?_⟩
    intro k q hq
    match k, hq with
    | 0, hq => cases hq; exact hKn0
    | 1, hq => cases hq; exact hKn1
    | 2, hq => cases hq; exact hKn2
    | 3, hq => cases hq; exact hKn3
    | 4, hq => cases hq; exact hKn4
    | 5, hq => cases hq; exact hKn5
    | 6, hq => cases hq; exact hKn6
    | 7, hq => cases hq; exact hKn7
    | k + 8, hq => simp [clX] at hq
  obtain ⟨cI, hI1, hI2⟩ := arr_of (hts _ w_42)
  obtain ⟨cZ, hZ1, hZ2⟩ := arr_of (hts _ w_78)
  obtain ⟨cJ, hJ1, hJ2⟩ := arr_of (hts _ w_856)
  have hKv : va_K (dC, dI) clX [(cI, .int), (cZ, .boolean)] s := ⟨hKc, fun k q h => by
      match k, h with
      | 0, h => cases h; exact ⟨hI1, hI2⟩
      | 1, h => cases h; exact ⟨hZ1, hZ2⟩
      | k + 2, h => simp at h⟩
  have hKj : va_K (dC, dI) clX [(cJ, .long)] s := ⟨hKc, fun k q h => by
      match k, h with
      | 0, h => cases h; exact ⟨hJ1, hJ2⟩
      | k + 1, h => simp at h⟩
  have hK : KX (dC, dI) cI cZ s := ⟨hKv, fun q hq => va_Nw.of rfl (htl _ (all_in nf_in q hq)), fun q hq => va_Nw.of rfl (htl _ (all_in nm_in q hq))⟩
  have hTE : TE s.heap.size s s.heap := by
    refine ⟨TL.of (htl _ (List.mem_of_getElem? (i := 282) (by decide +kernel))) (hfl2 _ (by decide +kernel)) (Nat.le_refl _), TL.of (htl _ (List.mem_of_getElem? (i := 284) (by decide +kernel))) (hfl2 _ (by decide +kernel)) (Nat.le_refl _), fun q hq => va_Nw.of rfl (htl _ (all_in dc_in q hq)), fun q hq => va_Nw.of rfl (htl _ (all_in cs_in q hq)), fun q hq => ?_⟩
    have h9 := List.all_eq_true.mp sr_in q hq
    simp only [Bool.and_eq_true, decide_eq_true_eq] at h9
    have hst := htl _ h9.1
    rw [h9.2] at hst
    obtain ⟨-, -, -, sa, -, -, -, -, -, hev⟩ := Cond.stringRef_spec hKn0.2.1 hst
    exact ⟨sa, by rw [h9.2]; exact vk_R.of hst hev⟩
  have hE : EH s.heap.size (dC, dI) cI cZ cJ s s.heap := ⟨hK, hTE, hKj, fun q hq => va_Nc.of (hfl2 _ (all_in nc_in q hq))⟩
  have hC : CX "PlaceMovesLaw" code p s m #[Value.ref b] c (dC, dI) cI cZ := ⟨hx, hb, hown, hts, hK⟩
  have hS : va_S (fun q : Nat => s.heap.size ≤ q) s.heap s.heap [] := va_S.rf
  have hP : va_P (dC, dI) clX [] s.heap := fun k q h => by simp at h
  have hD : va_D (fun q : Nat => s.heap.size ≤ q) [] := ⟨fun i j p q h => by simp at h, fun k q h => by simp at h⟩
  have hl := lv_entry ([.ref b]) (n := 7) (Nat.le_of_ble_eq_true rfl)
  rw [lg_entry_eq]
  generalize (lg_sl ([.ref b]) ++ List.replicate (7 - (lg_sl ([.ref b])).length) Slot.unset).toArray = ls at hl ⊢
  have hl : lv_has ls 7 [(0, .ref b)] := hl
  refine va_new (ci := 0) (fs := [.null, .null, .null, .null, .null, .null, .null, .null, .int 0]) (C := "PlaceMoves") (T := F_PM) (N := 9) hx hb hts i_PM t_PM t_PM_ok hown (hts _ w_16) (hts _ w_17) (hts _ w_1) hK.1 hP hD hS hA rfl (fun j hj => by
    match j, hj with
    | 0, _ => rfl
    | 1, _ => rfl
    | 2, _ => rfl
    | 3, _ => rfl
    | 4, _ => rfl
    | 5, _ => rfl
    | 6, _ => rfl
    | 7, _ => rfl
    | 8, _ => rfl
    | j + 9, h => exact absurd h (by omega)) (by decide) (by decide) d_LW_law_0 (fun q0 H hP hD hS => ?_)
  have hP : va_P (dC, dI) clX [(q0, .inr (0, [.null, .null, .null, .null, .null, .null, .null, .null, .int 0]))] H := hP
  have hD : va_D (fun q : Nat => s.heap.size ≤ q) [(q0, .inr (0, [.null, .null, .null, .null, .null, .null, .null, .null, .int 0]))] := hD
  refine lv_dup hx hb d_LW_law_3 rfl ?_
  have hPc := hP.sub (ws' := [(q0, .inr (0, [.null, .null, .null, .null, .null, .null, .null, .null, .int 0]))]) [0] rfl
  have hDc := hD.sub (ws' := [(q0, .inr (0, [.null, .null, .null, .null, .null, .null, .null, .null, .int 0]))]) [0] (by decide) rfl
  have hFc := va_free (wc := [(q0, .inr (0, [.null, .null, .null, .null, .null, .null, .null, .null, .int 0]))]) hD hS hA [0] rfl
  refine va_callv (va_runI (As := []) (rest := [.ref q0]) ⟨hx, hb, hml, hown, hts⟩ (c_PM_init l (dC, dI) cI cZ q0 H.size) (cwI 0 hts (wg_code w_20) rfl rfl rfl (hts _ w_1) (hts _ w_18) (hts _ w_19) rfl (by decide +kernel) ⟨Nat.le_of_ble_eq_true rfl, Nat.le_of_ble_eq_true rfl⟩) ⟨PcC.blind, fun U hU hZ => ⟨rfl, by rw [hU], by rw [hU]; exact hPc, hDc.weaken (fun _ _ _ _ => trivial), hK.warm hZ⟩⟩ rfl rfl hl.1 rfl (lv_room (Nat.le_of_ble_eq_true rfl)) d_LW_law_4 (by decide)) hS (fun q _ h => hFc q h) hFc (fun ad t H1 locs ht hvm hwad hB hz1 hk1 hS => ?_)
  obtain ⟨hP1, hD1⟩ := hB
  rw [ht] at hP1
  obtain ⟨hP, hD⟩ := va_join (wr := []) (w1 := wX0 cI cZ ad) hP hD [0] [] rfl rfl (by decide) (by decide) hk1 hFc hP1 hD1
  generalize H1 = H at hP hS ⊢
  have hP : va_P (dC, dI) clX (wX0 cI cZ ad) H := hP
  have hD : va_D (fun q : Nat => s.heap.size ≤ q) (wX0 cI cZ ad) := hD
  refine lv_astore_n (lv' := [(1, .ref q0), (0, .ref b)]) hx hb d_LW_law_7 rfl hl (by decide) rfl (fun ls hl => ?_)
  refine va_new (ci := 7) (fs := [.int 0, .int 0, .int 0, .null, .null, .int 0, .null, .null, .null, .null, .null, .null, .null, .null, .null, .int 0, .null, .null, .null, .null, .null, .int 0, .null, .null, .null, .null, .int 0, .null, .null, .null, .int 0, .int 0]) (C := "PlaceMovesModel") (T := F_MD) (N := 32) hx hb hts i_MD t_MD t_MD_ok hown (hts _ w_594) (hts _ w_595) (hts _ w_8) hK.1 hP hD hS hA rfl (fun j hj => by
    match j, hj with
    | 0, _ => rfl
    | 1, _ => rfl
    | 2, _ => rfl
    | 3, _ => rfl
    | 4, _ => rfl
    | 5, _ => rfl
    | 6, _ => rfl
    | 7, _ => rfl
    | 8, _ => rfl
    | 9, _ => rfl
    | 10, _ => rfl
    | 11, _ => rfl
    | 12, _ => rfl
    | 13, _ => rfl
    | 14, _ => rfl
    | 15, _ => rfl
    | 16, _ => rfl
    | 17, _ => rfl
    | 18, _ => rfl
    | 19, _ => rfl
    | 20, _ => rfl
    | 21, _ => rfl
    | 22, _ => rfl
    | 23, _ => rfl
    | 24, _ => rfl
    | 25, _ => rfl
    | 26, _ => rfl
    | 27, _ => rfl
    | 28, _ => rfl
    | 29, _ => rfl
    | 30, _ => rfl
    | 31, _ => rfl
    | j + 32, h => exact absurd h (by omega)) (by decide) (by decide) d_LW_law_8 (fun q1 H hP hD hS => ?_)
  have hP : va_P (dC, dI) clX (wX0 cI cZ ad ++ [(q1, .inr (7, [.int 0, .int 0, .int 0, .null, .null, .int 0, .null, .null, .null, .null, .null, .null, .null, .null, .null, .int 0, .null, .null, .null, .null, .null, .int 0, .null, .null, .null, .null, .int 0, .null, .null, .null, .int 0, .int 0]))]) H := hP
  have hD : va_D (fun q : Nat => s.heap.size ≤ q) (wX0 cI cZ ad ++ [(q1, .inr (7, [.int 0, .int 0, .int 0, .null, .null, .int 0, .null, .null, .null, .null, .null, .null, .null, .null, .null, .int 0, .null, .null, .null, .null, .null, .int 0, .null, .null, .null, .null, .int 0, .null, .null, .null, .int 0, .int 0]))]) := hD
  refine lv_dup hx hb d_LW_law_11 rfl ?_
  have hPc := hP.sub (ws' := [(q1, .inr (7, [.int 0, .int 0, .int 0, .null, .null, .int 0, .null, .null, .null, .null, .null, .null, .null, .null, .null, .int 0, .null, .null, .null, .null, .null, .int 0, .null, .null, .null, .null, .int 0, .null, .null, .null, .int 0, .int 0]))]) [32] rfl
  have hDc := hD.sub (ws' := [(q1, .inr (7, [.int 0, .int 0, .int 0, .null, .null, .int 0, .null, .null, .null, .null, .null, .null, .null, .null, .null, .int 0, .null, .null, .null, .null, .null, .int 0, .null, .null, .null, .null, .int 0, .null, .null, .null, .int 0, .int 0]))]) [32] (by decide) rfl
  have hFc := va_free (wc := [(q1, .inr (7, [.int 0, .int 0, .int 0, .null, .null, .int 0, .null, .null, .null, .null, .null, .null, .null, .null, .null, .int 0, .null, .null, .null, .null, .null, .int 0, .null, .null, .null, .null, .int 0, .null, .null, .null, .int 0, .int 0]))]) hD hS hA [32] rfl
  refine va_callv (va_runI (As := []) (rest := [.ref q1]) ⟨hx, hb, hml, hown, hts⟩ (c_MD_init l (dC, dI) cI cZ q1 H.size) (cwI 0 hts (wg_code w_598) rfl rfl rfl (hts _ w_8) (hts _ w_596) (hts _ w_597) rfl (by decide +kernel) ⟨Nat.le_of_ble_eq_true rfl, Nat.le_of_ble_eq_true rfl⟩) ⟨PcC.blind, fun U hU hZ => ⟨rfl, by rw [hU], by rw [hU]; exact hPc, hDc.weaken (fun _ _ _ _ => trivial), hK.warm hZ⟩⟩ rfl rfl hl.1 rfl (lv_room (Nat.le_of_ble_eq_true rfl)) d_LW_law_12 (by decide)) hS (fun q _ h => hFc q h) hFc (fun am t H1 locs ht hvm hwam hB hz1 hk1 hS => ?_)
  obtain ⟨hP1, hD1⟩ := hB
  rw [ht] at hP1
  obtain ⟨hP, hD⟩ := va_join (wr := wX0 cI cZ ad) (w1 := wR0 cI cZ am) hP hD [32] [0, 1, 2, 3, 4, 5, 6, 7, 8, 9, 10, 11, 12, 13, 14, 15, 16, 17, 18, 19, 20, 21, 22, 23, 24, 25, 26, 27, 28, 29, 30, 31] rfl rfl (by decide) (by decide) hk1 hFc hP1 hD1
  generalize H1 = H at hP hS ⊢
  have hP : va_P (dC, dI) clX (wX0 cI cZ ad ++ wR0 cI cZ am) H := hP
  have hD : va_D (fun q : Nat => s.heap.size ≤ q) (wX0 cI cZ ad ++ wR0 cI cZ am) := hD
  refine lv_astore_n (lv' := [(2, .ref q1), (1, .ref q0), (0, .ref b)]) hx hb d_LW_law_15 rfl hl (by decide) rfl (fun ls hl => ?_)
  refine lv_iconst (v := 1) hx hb d_LW_law_16 (by decide) ?_
  refine va_newa (atype := .long) (a0 := (1, .inr (.inl (fun _ => 0)))) hx hb (hts _ w_856) (ty := .long) rfl hK.1 hP hD hS hA (fun _ => rfl) (by decide) (N' := 1) (by decide) (by decide) (by decide) (by decide) d_LW_law_17 (fun aO cJ2 H hK2 hP hD hS => ?_)
  obtain rfl : cJ2 = cJ := Option.some.inj ((va_nm_long (hK2.2 2 _ rfl).2).symm.trans hJ2)
  refine lv_astore_n (lv' := [(3, .ref aO), (2, .ref q1), (1, .ref q0), (0, .ref b)]) hx hb d_LW_law_19 rfl hl (by decide) rfl (fun ls hl => ?_)
  refine lv_iconst (v := 0) hx hb d_LW_law_20 (by decide) ?_
  refine lv_istore (lv' := [(4, .int 0), (3, .ref aO), (2, .ref q1), (1, .ref q0), (0, .ref b)]) hx hb d_LW_law_21 hl (by decide) rfl (fun ls hl => ?_)
  have hP9 : va_P (dC, dI) clX (wL ad cI cZ cJ2 aO am σ0 (fun _ => 0) τ0) H := hP.sub [0, 1, 2, 3, 4, 5, 6, 7, 8, 9, 10, 11, 12, 13, 14, 15, 16, 17, 18, 19, 20, 21, 22, 23, 24, 25, 26, 27, 28, 29, 30, 31, 56, 32, 33, 34, 35, 36, 37, 38, 39, 40, 41, 42, 43, 44, 45, 46, 47, 48, 49, 50, 51, 52, 53, 54, 55] rfl
  have hD9 : va_D (fun q : Nat => s.heap.size ≤ q) (wL ad cI cZ cJ2 aO am σ0 (fun _ => 0) τ0) := hD.sub [0, 1, 2, 3, 4, 5, 6, 7, 8, 9, 10, 11, 12, 13, 14, 15, 16, 17, 18, 19, 20, 21, 22, 23, 24, 25, 26, 27, 28, 29, 30, 31, 56, 32, 33, 34, 35, 36, 37, 38, 39, 40, 41, 42, 43, 44, 45, 46, 47, 48, 49, 50, 51, 52, 53, 54, 55] (by decide) rfl
  rw [← hwad, ← hwam] at hl
  refine W.widen (k := 57 + 0) (n := 5991 + 6 * 0) (by decide) (by decide) ?_
  exact lw_loop hfl ⟨hx, hb, hr, hml, hown, hts, hX, hbl, hlocks, hL, hE, DL.of hD9⟩ hI (L + 1) 0 (by omega) (by omega) σ0 τ0 (fun _ => 0) 0 rfl hI0 _ _ hP9 hS ls (lv_sub hl [4, 3, 2, 1, 0] rfl)
