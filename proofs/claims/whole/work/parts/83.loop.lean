/-! what is owed of the pure functions: a relation that holds at the start, is kept by every call, and makes the answers equal -/
def Ok_place (I : Sg → Sg → Prop) : Prop := ∀ (σ τ : Sg) (y : Nat → Int64) (p1 p2 : Int32), I σ τ → ∃ (k b9 : Int32) (σ' τ' : Sg) (y' : Nat → Int64), h_place σ y p1 p2 = some (k, y', σ') ∧ f_MD_place τ p1 p2 = some (b9, τ') ∧ f_MD_thrown τ' = some k ∧ (k = 0 → y' (Int32.toNatClampNeg 0) = Int32.toInt64 b9) ∧ I σ' τ'
def Ok_object (I : Sg → Sg → Prop) : Prop := ∀ (σ τ : Sg) (y : Nat → Int64) (p1 p2 p3 p4 : Int32), I σ τ → ∃ (k b9 : Int32) (σ' τ' : Sg) (y' : Nat → Int64), h_object σ y p1 p2 p3 p4 = some (k, y', σ') ∧ f_MD_object τ p1 p2 p3 p4 = some (b9, τ') ∧ f_MD_thrown τ' = some k ∧ (k = 0 → y' (Int32.toNatClampNeg 0) = Int32.toInt64 b9) ∧ I σ' τ'
def Ok_keys (I : Sg → Sg → Prop) : Prop := ∀ (σ τ : Sg) (y : Nat → Int64) (p1 p2 : Int32), I σ τ → ∃ (k b9 : Int32) (σ' τ' : Sg) (y' : Nat → Int64), h_keys σ y p1 p2 = some (k, y', σ') ∧ f_MD_keys τ p1 p2 = some (b9, τ') ∧ f_MD_thrown τ' = some k ∧ (k = 0 → y' (Int32.toNatClampNeg 0) = Int32.toInt64 b9) ∧ I σ' τ'
def Ok_key (I : Sg → Sg → Prop) : Prop := ∀ (σ τ : Sg) (y : Nat → Int64) (p1 p2 : Int32), I σ τ → (p2 = 0 ∨ p2 = 1) → ∃ (k b9 : Int32) (σ' τ' : Sg) (y' : Nat → Int64), h_key σ y p1 p2 = some (k, y', σ') ∧ f_MD_key τ p1 p2 = some (b9, τ') ∧ f_MD_thrown τ' = some k ∧ (k = 0 → y' (Int32.toNatClampNeg 0) = if b9 = 0 then 0 else 1) ∧ I σ' τ'
def Ok_box (I : Sg → Sg → Prop) : Prop := ∀ (σ τ : Sg) (y : Nat → Int64) (p1 : Int32), I σ τ → ∃ (k b9 : Int32) (σ' τ' : Sg) (y' : Nat → Int64), h_box σ y p1 = some (k, y', σ') ∧ f_MD_box τ p1 = some (b9, τ') ∧ f_MD_thrown τ' = some k ∧ (k = 0 → y' (Int32.toNatClampNeg 0) = if b9 = 0 then 0 else 1) ∧ I σ' τ'
def Ok_move (I : Sg → Sg → Prop) : Prop := ∀ (σ τ : Sg) (y : Nat → Int64) (p1 p2 p3 p4 p5 : Int32), I σ τ → ∃ (k b9 : Int32) (σ' τ' : Sg) (y' : Nat → Int64), h_move σ y p1 p2 p3 p4 p5 = some (k, y', σ') ∧ f_MD_move τ p1 p2 p3 p4 p5 = some (b9, τ') ∧ f_MD_thrown τ' = some k ∧ (k = 0 → y' (Int32.toNatClampNeg 0) = Int32.toInt64 b9) ∧ I σ' τ'
def Ok_into (I : Sg → Sg → Prop) : Prop := ∀ (σ τ : Sg) (y : Nat → Int64) (p1 p2 p3 : Int32), I σ τ → ∃ (k b9 : Int32) (σ' τ' : Sg) (y' : Nat → Int64), h_into σ y p1 p2 p3 = some (k, y', σ') ∧ f_MD_into τ p1 p2 p3 = some (b9, τ') ∧ f_MD_thrown τ' = some k ∧ (k = 0 → y' (Int32.toNatClampNeg 0) = Int32.toInt64 b9) ∧ I σ' τ'
def Ok_lost (I : Sg → Sg → Prop) : Prop := ∀ (σ τ : Sg) (y : Nat → Int64) (p1 p2 : Int32), I σ τ → ∃ (k b9 : Int32) (σ' τ' : Sg) (y' : Nat → Int64), h_lost σ y p1 p2 = some (k, y', σ') ∧ f_MD_lost τ p1 p2 = some (b9, τ') ∧ f_MD_thrown τ' = some k ∧ (k = 0 → y' (Int32.toNatClampNeg 0) = if b9 = 0 then 0 else 1) ∧ I σ' τ'
def Ok_where (I : Sg → Sg → Prop) : Prop := ∀ (σ τ : Sg) (y : Nat → Int64) (p1 p2 : Int32), I σ τ → ∃ (k b9 : Int32) (σ' τ' : Sg) (y' : Nat → Int64), h_where σ y p1 p2 = some (k, y', σ') ∧ f_MD_where τ p1 p2 = some (b9, τ') ∧ f_MD_thrown τ' = some k ∧ (k = 0 → y' (Int32.toNatClampNeg 0) = Int32.toInt64 b9) ∧ I σ' τ'
def Ok_last (I : Sg → Sg → Prop) : Prop := ∀ (σ τ : Sg) (y : Nat → Int64) (p1 : Int32), I σ τ → ∃ (k b9 : Int32) (σ' τ' : Sg) (y' : Nat → Int64), h_last σ y p1 = some (k, y', σ') ∧ f_MD_last τ p1 = some (b9, τ') ∧ f_MD_thrown τ' = some k ∧ (k = 0 → y' (Int32.toNatClampNeg 0) = Int32.toInt64 b9) ∧ I σ' τ'
def Ok_history (I : Sg → Sg → Prop) : Prop := ∀ (σ τ : Sg) (y : Nat → Int64) (p1 p2 p3 : Int32), I σ τ → ∃ (k b9 : Int32) (σ' τ' : Sg) (y' : Nat → Int64), h_history σ y p1 p2 p3 = some (k, y', σ') ∧ f_MD_history τ p1 p2 p3 = some (b9, τ') ∧ f_MD_thrown τ' = some k ∧ (k = 0 → y' (Int32.toNatClampNeg 0) = Int32.toInt64 b9) ∧ I σ' τ'
def Ok_door (I : Sg → Sg → Prop) : Prop := ∀ (σ τ : Sg) (y : Nat → Int64) (p1 p2 p3 p4 : Int32), I σ τ → ∃ (k b9 : Int32) (σ' τ' : Sg) (y' : Nat → Int64), h_door σ y p1 p2 p3 p4 = some (k, y', σ') ∧ f_MD_door τ p1 p2 p3 p4 = some (b9, τ') ∧ f_MD_thrown τ' = some k ∧ (k = 0 → y' (Int32.toNatClampNeg 0) = Int32.toInt64 b9) ∧ I σ' τ'
def Ok_passes (I : Sg → Sg → Prop) : Prop := ∀ (σ τ : Sg) (y : Nat → Int64) (p1 p2 : Int32), I σ τ → ∃ (k b9 : Int32) (σ' τ' : Sg) (y' : Nat → Int64), h_passes σ y p1 p2 = some (k, y', σ') ∧ f_MD_passes τ p1 p2 = some (b9, τ') ∧ f_MD_thrown τ' = some k ∧ (k = 0 → y' (Int32.toNatClampNeg 0) = if b9 = 0 then 0 else 1) ∧ I σ' τ'
def Ok_way (I : Sg → Sg → Prop) : Prop := ∀ (σ τ : Sg) (y : Nat → Int64) (p1 p2 : Int32), I σ τ → ∃ (k b9 : Int32) (σ' τ' : Sg) (y' : Nat → Int64), h_way σ y p1 p2 = some (k, y', σ') ∧ f_MD_way τ p1 p2 = some (b9, τ') ∧ f_MD_thrown τ' = some k ∧ (k = 0 → y' (Int32.toNatClampNeg 0) = Int32.toInt64 b9) ∧ I σ' τ'
def Ok_planned (I : Sg → Sg → Prop) : Prop := ∀ (σ τ : Sg) (y : Nat → Int64) (p1 p2 p3 p4 : Int32), I σ τ → ∃ (k b9 : Int32) (σ' τ' : Sg) (y' : Nat → Int64), h_planned σ y p1 p2 p3 p4 = some (k, y', σ') ∧ f_MD_planned τ p1 p2 p3 p4 = some (b9, τ') ∧ f_MD_thrown τ' = some k ∧ (k = 0 → y' (Int32.toNatClampNeg 0) = Int32.toInt64 b9) ∧ I σ' τ'
def Ok_used (I : Sg → Sg → Prop) : Prop := ∀ (σ τ : Sg) (y : Nat → Int64) (p1 p2 : Int32), I σ τ → ∃ (k b9 : Int32) (σ' τ' : Sg) (y' : Nat → Int64), h_used σ y p1 p2 = some (k, y', σ') ∧ f_MD_used τ p1 p2 = some (b9, τ') ∧ f_MD_thrown τ' = some k ∧ (k = 0 → y' (Int32.toNatClampNeg 0) = Int32.toInt64 b9) ∧ I σ' τ'
def Ok_quiet (I : Sg → Sg → Prop) : Prop := ∀ (σ τ : Sg) (y : Nat → Int64) (p1 p2 p3 : Int32), I σ τ → ∃ (k : Int32) (σ' τ' : Sg) (y' : Nat → Int64), h_quiet σ y p1 p2 p3 = some (k, y', σ') ∧ f_MD_quiet τ p1 p2 p3 = some τ' ∧ f_MD_thrown τ' = some k ∧ I σ' τ'
def Ok_count (I : Sg → Sg → Prop) : Prop := ∀ (σ τ : Sg) (y : Nat → Int64) (p1 : Int32), I σ τ → ∃ (k b9 : Int32) (σ' τ' : Sg) (y' : Nat → Int64), h_count σ y p1 = some (k, y', σ') ∧ f_MD_count τ p1 = some (b9, τ') ∧ f_MD_thrown τ' = some k ∧ (k = 0 → y' (Int32.toNatClampNeg 0) = Int32.toInt64 b9) ∧ I σ' τ'
def OkAll (I : Sg → Sg → Prop) : Prop := Ok_place I ∧ Ok_object I ∧ Ok_keys I ∧ Ok_key I ∧ Ok_box I ∧ Ok_move I ∧ Ok_into I ∧ Ok_lost I ∧ Ok_where I ∧ Ok_last I ∧ Ok_history I ∧ Ok_door I ∧ Ok_passes I ∧ Ok_way I ∧ Ok_planned I ∧ Ok_used I ∧ Ok_quiet I ∧ Ok_count I
theorem lw_gt {L i : Nat} (hL : L ≤ 3072) (hi : i ≤ 3072) : (nI L - nI 6 < nI i) ↔ L < i + 6 := by
  rw [Int32.lt_iff_toInt_lt, pk_sub_toInt (by omega) (by omega), nI_toInt (by omega)]
  omega
set_option maxHeartbeats 4000000 in
set_option maxRecDepth 100000 in
theorem lw_loop {p : Program} {l : Launch} {e : Env} {s : State} {m : MethodId} {below : List Frame} {meth : Method} {c : Code} {b L : Nat} {xs : Nat → Int32} {G : va_G} {cI cZ cJ : ClassId} {ad : Nat → Nat} {aO : Nat} {am : Nat → Nat} (hfl : l.flags = pinnedFlags ++ [noTraceFlag]) (E : EL p s m meth c b L xs G cI cZ cJ ad aO am) {I : Sg → Sg → Prop} (hI : OkAll I) :
    ∀ (n j : Nat), L < 6 * (j + n) → 6 * j ≤ L → ∀ (σ τ : Sg) (y : Nat → Int64) (x4 : Int32), x4 = nI (6 * j) → I σ τ → ∀ (H : Heap) (locs : List Loc), va_P G clX (wL ad cI cZ cJ aO am σ y τ) H → va_S (fun q : Nat => s.heap.size ≤ q) s.heap H locs → ∀ (ls : Array Slot), lv_has ls 7 [(0, .ref b), (1, .ref (ad 0)), (2, .ref (am 0)), (3, .ref aO), (4, .int x4)] → W p l e room_1 s m #[Value.ref b] below meth c H locs (57 + j) (5991 + 6 * j) (lw_Z below #[Value.ref b] s) (F0 m 23 ls []) := by
  obtain ⟨hx, hb, hr, hml, hown, hts, hX, hbl, hlocks, hL, hE, hD⟩ := id E
  have hbA : ¬ (fun q : Nat => s.heap.size ≤ q) b := Nat.not_le.mpr hbl
  intro n
  induction n with
  | zero =>
    intro j h1 h2
    exact absurd h1 (by omega)
  | succ n ih =>
    intro j h1 hj σ τ y x4 ex hIs H locs hP hS ls hl
    have k1484 : ∀ (σ τ : Sg) (y : Nat → Int64), I σ τ → ∀ (H : Heap) (locs : List Loc) (ls : Array Slot), 6 * j + 6 ≤ L → va_P G clX (wL ad cI cZ cJ aO am σ y τ) H → va_S (fun q : Nat => s.heap.size ≤ q) s.heap H locs → lv_has ls 7 [(0, .ref b), (1, .ref (ad 0)), (2, .ref (am 0)), (3, .ref aO), (4, .int x4)] → W p l e room_1 s m #[Value.ref b] below meth c H locs (57 + j + 1) (5991 + 6 * j + 6) (lw_Z below #[Value.ref b] s) (F0 m 1484 ls []) := by
      intro σ τ y hIs H locs ls hi hP hS hl
      refine lv_iinc (v := x4 + 6) (lv' := [(4, .int (x4 + 6)), (0, .ref b), (1, .ref (ad 0)), (2, .ref (am 0)), (3, .ref aO)]) hx hb d_LW_law_1484 hl (k := 4) rfl rfl (by decide) rfl (fun ls hl => ?_)
      refine lv_goto (tgt := 23) hx hb d_LW_law_1487 (by decide) ?_
      exact ih (j + 1) (by omega) (by omega) σ τ y (x4 + 6) (by rw [ex]; exact (nI_add (6 * j) 6).trans (by rw [show 6 * j + 6 = 6 * (j + 1) by omega])) hIs H locs hP hS ls (lv_sub hl [1, 2, 3, 4, 0] rfl)
    refine lv_iload hx hb d_LW_law_23 (lv_at hl 4 rfl) ?_
    refine lv_aload_n hx hb d_LW_law_25 rfl (lv_at hl 0 rfl) ?_
    refine va_slen hx hb hX hbl hbA hS d_LW_law_26 ?_
    refine lv_bipush (v := nI 6) hx hb d_LW_law_27 (by decide) ?_
    refine lv_isub hx hb d_LW_law_29 ?_
    refine lv_icmp_gt (tgt := 1490) hx hb d_LW_law_30 (by decide) (fun c1 => ?_) (fun c1 => ?_)
    · refine lv_iconst (v := 1) hx hb d_LW_law_1490 (by decide) ?_
      refine va_forget (fun q hq => hS.2.2 q hq) ?_
      refine W.widen (k := 1088) (n := 14225) (by omega) (by omega) ?_
      exact lw_ret hx hb hr hlocks d_LW_law_1491
    · have hi : 6 * j + 6 ≤ L := by
        rw [ex] at c1
        have c2 : ¬ L < 6 * j + 6 := fun z => c1 ((lw_gt hL (i := 6 * j) (by omega)).mpr z)
        omega
      have hx0 : x4.toNatClampNeg = 6 * j := by rw [ex]; exact nI_clamp (by omega)
      refine lv_aload_n hx hb d_LW_law_33 rfl (lv_at hl 0 rfl) ?_
      refine lv_iload hx hb d_LW_law_34 (lv_at hl 4 rfl) ?_
      refine va_sld hx hb hX hbl hbA hS (by rw [ex]; exact vp_in_nI (by omega) (by omega)) d_LW_law_36 ?_
      refine lv_bipush (v := 31) hx hb d_LW_law_37 (by decide) ?_
      refine lv_iand hx hb d_LW_law_39 ?_
      refine lv_topi (fun t et => ?_)
      by_cases e0 : t = 0
      · refine lv_tableIn (off := 88) (tgt := 128) hx hb d_LW_law_40 (by rw [e0]; decide) (by rw [e0]; decide) (by rw [e0]; decide) (by decide) ?_
        obtain ⟨k, b9, σ', τ', y', g1, g2, g3, g4, hI9⟩ := hI.1 σ τ y (xs (6 * j + 1)) (xs (6 * j + 2)) hIs
        exact lc_place hfl E ex hi g1 g2 g3 g4 hP hS (by omega) (by omega) hl (fun H1 locs1 ls1 hP hS hl => k1484 σ' τ' y' hI9 H1 locs1 ls1 hi hP hS hl)
      · by_cases e1 : t = 1
        · refine lv_tableIn (off := 156) (tgt := 196) hx hb d_LW_law_40 (by rw [e1]; decide) (by rw [e1]; decide) (by rw [e1]; decide) (by decide) ?_
          obtain ⟨k, b9, σ', τ', y', g1, g2, g3, g4, hI9⟩ := hI.2.1 σ τ y (xs (6 * j + 1)) (xs (6 * j + 2)) (xs (6 * j + 3)) (xs (6 * j + 4)) hIs
          exact lc_object hfl E ex hi g1 g2 g3 g4 hP hS (by omega) (by omega) hl (fun H1 locs1 ls1 hP hS hl => k1484 σ' τ' y' hI9 H1 locs1 ls1 hi hP hS hl)
        · by_cases e2 : t = 2
          · refine lv_tableIn (off := 248) (tgt := 288) hx hb d_LW_law_40 (by rw [e2]; decide) (by rw [e2]; decide) (by rw [e2]; decide) (by decide) ?_
            obtain ⟨k, b9, σ', τ', y', g1, g2, g3, g4, hI9⟩ := hI.2.2.1 σ τ y (xs (6 * j + 1)) (xs (6 * j + 2)) hIs
            exact lc_keys hfl E ex hi g1 g2 g3 g4 hP hS (by omega) (by omega) hl (fun H1 locs1 ls1 hP hS hl => k1484 σ' τ' y' hI9 H1 locs1 ls1 hi hP hS hl)
          · by_cases e3 : t = 3
            · refine lv_tableIn (off := 316) (tgt := 356) hx hb d_LW_law_40 (by rw [e3]; decide) (by rw [e3]; decide) (by rw [e3]; decide) (by decide) ?_
              obtain ⟨k, b9, σ', τ', y', g1, g2, g3, g4, hI9⟩ := hI.2.2.2.1 σ τ y (xs (6 * j + 1)) (if xs (6 * j + 2) = 0 then 0 else 1) hIs (by split; exact Or.inl rfl; exact Or.inr rfl)
              exact lc_key hfl E ex hi g1 g2 g3 g4 rfl hP hS (by omega) (by omega) hl (fun H1 locs1 ls1 hP hS hl => k1484 σ' τ' y' hI9 H1 locs1 ls1 hi hP hS hl)
            · by_cases e4 : t = 4
              · refine lv_tableIn (off := 407) (tgt := 447) hx hb d_LW_law_40 (by rw [e4]; decide) (by rw [e4]; decide) (by rw [e4]; decide) (by decide) ?_
                obtain ⟨k, b9, σ', τ', y', g1, g2, g3, g4, hI9⟩ := hI.2.2.2.2.1 σ τ y (xs (6 * j + 1)) hIs
                exact lc_box hfl E ex hi g1 g2 g3 g4 hP hS (by omega) (by omega) hl (fun H1 locs1 ls1 hP hS hl => k1484 σ' τ' y' hI9 H1 locs1 ls1 hi hP hS hl)
              · by_cases e5 : t = 5
                · refine lv_tableIn (off := 470) (tgt := 510) hx hb d_LW_law_40 (by rw [e5]; decide) (by rw [e5]; decide) (by rw [e5]; decide) (by decide) ?_
                  obtain ⟨k, b9, σ', τ', y', g1, g2, g3, g4, hI9⟩ := hI.2.2.2.2.2.1 σ τ y (xs (6 * j + 1)) (xs (6 * j + 2)) (xs (6 * j + 3)) (xs (6 * j + 4)) (xs (6 * j + 5)) hIs
                  exact lc_move hfl E ex hi g1 g2 g3 g4 hP hS (by omega) (by omega) hl (fun H1 locs1 ls1 hP hS hl => k1484 σ' τ' y' hI9 H1 locs1 ls1 hi hP hS hl)
                · by_cases e6 : t = 6
                  · refine lv_tableIn (off := 574) (tgt := 614) hx hb d_LW_law_40 (by rw [e6]; decide) (by rw [e6]; decide) (by rw [e6]; decide) (by decide) ?_
                    obtain ⟨k, b9, σ', τ', y', g1, g2, g3, g4, hI9⟩ := hI.2.2.2.2.2.2.1 σ τ y (xs (6 * j + 1)) (xs (6 * j + 2)) (xs (6 * j + 3)) hIs
                    exact lc_into hfl E ex hi g1 g2 g3 g4 hP hS (by omega) (by omega) hl (fun H1 locs1 ls1 hP hS hl => k1484 σ' τ' y' hI9 H1 locs1 ls1 hi hP hS hl)
                  · by_cases e7 : t = 7
                    · refine lv_tableIn (off := 654) (tgt := 694) hx hb d_LW_law_40 (by rw [e7]; decide) (by rw [e7]; decide) (by rw [e7]; decide) (by decide) ?_
                      obtain ⟨k, b9, σ', τ', y', g1, g2, g3, g4, hI9⟩ := hI.2.2.2.2.2.2.2.1 σ τ y (xs (6 * j + 1)) (xs (6 * j + 2)) hIs
                      exact lc_lost hfl E ex hi g1 g2 g3 g4 hP hS (by omega) (by omega) hl (fun H1 locs1 ls1 hP hS hl => k1484 σ' τ' y' hI9 H1 locs1 ls1 hi hP hS hl)
                    · by_cases e8 : t = 8
                      · refine lv_tableIn (off := 729) (tgt := 769) hx hb d_LW_law_40 (by rw [e8]; decide) (by rw [e8]; decide) (by rw [e8]; decide) (by decide) ?_
                        obtain ⟨k, b9, σ', τ', y', g1, g2, g3, g4, hI9⟩ := hI.2.2.2.2.2.2.2.2.1 σ τ y (xs (6 * j + 1)) (xs (6 * j + 2)) hIs
                        exact lc_where hfl E ex hi g1 g2 g3 g4 hP hS (by omega) (by omega) hl (fun H1 locs1 ls1 hP hS hl => k1484 σ' τ' y' hI9 H1 locs1 ls1 hi hP hS hl)
                      · by_cases e9 : t = 9
                        · refine lv_tableIn (off := 797) (tgt := 837) hx hb d_LW_law_40 (by rw [e9]; decide) (by rw [e9]; decide) (by rw [e9]; decide) (by decide) ?_
                          obtain ⟨k, b9, σ', τ', y', g1, g2, g3, g4, hI9⟩ := hI.2.2.2.2.2.2.2.2.2.1 σ τ y (xs (6 * j + 1)) hIs
                          exact lc_last hfl E ex hi g1 g2 g3 g4 hP hS (by omega) (by omega) hl (fun H1 locs1 ls1 hP hS hl => k1484 σ' τ' y' hI9 H1 locs1 ls1 hi hP hS hl)
                        · by_cases e10 : t = 10
                          · refine lv_tableIn (off := 853) (tgt := 893) hx hb d_LW_law_40 (by rw [e10]; decide) (by rw [e10]; decide) (by rw [e10]; decide) (by decide) ?_
                            obtain ⟨k, b9, σ', τ', y', g1, g2, g3, g4, hI9⟩ := hI.2.2.2.2.2.2.2.2.2.2.1 σ τ y (xs (6 * j + 1)) (xs (6 * j + 2)) (xs (6 * j + 3)) hIs
                            exact lc_history hfl E ex hi g1 g2 g3 g4 hP hS (by omega) (by omega) hl (fun H1 locs1 ls1 hP hS hl => k1484 σ' τ' y' hI9 H1 locs1 ls1 hi hP hS hl)
                          · by_cases e11 : t = 11
                            · refine lv_tableIn (off := 933) (tgt := 973) hx hb d_LW_law_40 (by rw [e11]; decide) (by rw [e11]; decide) (by rw [e11]; decide) (by decide) ?_
                              obtain ⟨k, b9, σ', τ', y', g1, g2, g3, g4, hI9⟩ := hI.2.2.2.2.2.2.2.2.2.2.2.1 σ τ y (xs (6 * j + 1)) (xs (6 * j + 2)) (xs (6 * j + 3)) (xs (6 * j + 4)) hIs
                              exact lc_door hfl E ex hi g1 g2 g3 g4 hP hS (by omega) (by omega) hl (fun H1 locs1 ls1 hP hS hl => k1484 σ' τ' y' hI9 H1 locs1 ls1 hi hP hS hl)
                            · by_cases e12 : t = 12
                              · refine lv_tableIn (off := 1025) (tgt := 1065) hx hb d_LW_law_40 (by rw [e12]; decide) (by rw [e12]; decide) (by rw [e12]; decide) (by decide) ?_
                                obtain ⟨k, b9, σ', τ', y', g1, g2, g3, g4, hI9⟩ := hI.2.2.2.2.2.2.2.2.2.2.2.2.1 σ τ y (xs (6 * j + 1)) (xs (6 * j + 2)) hIs
                                exact lc_passes hfl E ex hi g1 g2 g3 g4 hP hS (by omega) (by omega) hl (fun H1 locs1 ls1 hP hS hl => k1484 σ' τ' y' hI9 H1 locs1 ls1 hi hP hS hl)
                              · by_cases e13 : t = 13
                                · refine lv_tableIn (off := 1100) (tgt := 1140) hx hb d_LW_law_40 (by rw [e13]; decide) (by rw [e13]; decide) (by rw [e13]; decide) (by decide) ?_
                                  obtain ⟨k, b9, σ', τ', y', g1, g2, g3, g4, hI9⟩ := hI.2.2.2.2.2.2.2.2.2.2.2.2.2.1 σ τ y (xs (6 * j + 1)) (xs (6 * j + 2)) hIs
                                  exact lc_way hfl E ex hi g1 g2 g3 g4 hP hS (by omega) (by omega) hl (fun H1 locs1 ls1 hP hS hl => k1484 σ' τ' y' hI9 H1 locs1 ls1 hi hP hS hl)
                                · by_cases e14 : t = 14
                                  · refine lv_tableIn (off := 1168) (tgt := 1208) hx hb d_LW_law_40 (by rw [e14]; decide) (by rw [e14]; decide) (by rw [e14]; decide) (by decide) ?_
                                    obtain ⟨k, b9, σ', τ', y', g1, g2, g3, g4, hI9⟩ := hI.2.2.2.2.2.2.2.2.2.2.2.2.2.2.1 σ τ y (xs (6 * j + 1)) (xs (6 * j + 2)) (xs (6 * j + 3)) (xs (6 * j + 4)) hIs
                                    exact lc_planned hfl E ex hi g1 g2 g3 g4 hP hS (by omega) (by omega) hl (fun H1 locs1 ls1 hP hS hl => k1484 σ' τ' y' hI9 H1 locs1 ls1 hi hP hS hl)
                                  · by_cases e15 : t = 15
                                    · refine lv_tableIn (off := 1260) (tgt := 1300) hx hb d_LW_law_40 (by rw [e15]; decide) (by rw [e15]; decide) (by rw [e15]; decide) (by decide) ?_
                                      obtain ⟨k, b9, σ', τ', y', g1, g2, g3, g4, hI9⟩ := hI.2.2.2.2.2.2.2.2.2.2.2.2.2.2.2.1 σ τ y (xs (6 * j + 1)) (xs (6 * j + 2)) hIs
                                      exact lc_used hfl E ex hi g1 g2 g3 g4 hP hS (by omega) (by omega) hl (fun H1 locs1 ls1 hP hS hl => k1484 σ' τ' y' hI9 H1 locs1 ls1 hi hP hS hl)
                                    · by_cases e16 : t = 16
                                      · refine lv_tableIn (off := 1328) (tgt := 1368) hx hb d_LW_law_40 (by rw [e16]; decide) (by rw [e16]; decide) (by rw [e16]; decide) (by decide) ?_
                                        obtain ⟨k, σ', τ', y', g1, g2, g3, hI9⟩ := hI.2.2.2.2.2.2.2.2.2.2.2.2.2.2.2.2.1 σ τ y (xs (6 * j + 1)) (xs (6 * j + 2)) (xs (6 * j + 3)) hIs
                                        exact lc_quiet hfl E ex hi g1 g2 g3 hP hS (by omega) (by omega) hl (fun H1 locs1 ls1 hP hS hl => k1484 σ' τ' y' hI9 H1 locs1 ls1 hi hP hS hl)
                                      · by_cases e17 : t = 17
                                        · refine lv_tableIn (off := 1388) (tgt := 1428) hx hb d_LW_law_40 (by rw [e17]; decide) (by rw [e17]; decide) (by rw [e17]; decide) (by decide) ?_
                                          obtain ⟨k, b9, σ', τ', y', g1, g2, g3, g4, hI9⟩ := hI.2.2.2.2.2.2.2.2.2.2.2.2.2.2.2.2.2 σ τ y (xs (6 * j + 1)) hIs
                                          exact lc_count hfl E ex hi g1 g2 g3 g4 hP hS (by omega) (by omega) hl (fun H1 locs1 ls1 hP hS hl => k1484 σ' τ' y' hI9 H1 locs1 ls1 hi hP hS hl)
                                        · have o0 : t.toInt ≠ 0 := fun q9 => e0 (Int32.toInt_inj.mp (q9.trans (by decide)))
                                          have o1 : t.toInt ≠ 1 := fun q9 => e1 (Int32.toInt_inj.mp (q9.trans (by decide)))
                                          have o2 : t.toInt ≠ 2 := fun q9 => e2 (Int32.toInt_inj.mp (q9.trans (by decide)))
                                          have o3 : t.toInt ≠ 3 := fun q9 => e3 (Int32.toInt_inj.mp (q9.trans (by decide)))
                                          have o4 : t.toInt ≠ 4 := fun q9 => e4 (Int32.toInt_inj.mp (q9.trans (by decide)))
                                          have o5 : t.toInt ≠ 5 := fun q9 => e5 (Int32.toInt_inj.mp (q9.trans (by decide)))
                                          have o6 : t.toInt ≠ 6 := fun q9 => e6 (Int32.toInt_inj.mp (q9.trans (by decide)))
                                          have o7 : t.toInt ≠ 7 := fun q9 => e7 (Int32.toInt_inj.mp (q9.trans (by decide)))
                                          have o8 : t.toInt ≠ 8 := fun q9 => e8 (Int32.toInt_inj.mp (q9.trans (by decide)))
                                          have o9 : t.toInt ≠ 9 := fun q9 => e9 (Int32.toInt_inj.mp (q9.trans (by decide)))
                                          have o10 : t.toInt ≠ 10 := fun q9 => e10 (Int32.toInt_inj.mp (q9.trans (by decide)))
                                          have o11 : t.toInt ≠ 11 := fun q9 => e11 (Int32.toInt_inj.mp (q9.trans (by decide)))
                                          have o12 : t.toInt ≠ 12 := fun q9 => e12 (Int32.toInt_inj.mp (q9.trans (by decide)))
                                          have o13 : t.toInt ≠ 13 := fun q9 => e13 (Int32.toInt_inj.mp (q9.trans (by decide)))
                                          have o14 : t.toInt ≠ 14 := fun q9 => e14 (Int32.toInt_inj.mp (q9.trans (by decide)))
                                          have o15 : t.toInt ≠ 15 := fun q9 => e15 (Int32.toInt_inj.mp (q9.trans (by decide)))
                                          have o16 : t.toInt ≠ 16 := fun q9 => e16 (Int32.toInt_inj.mp (q9.trans (by decide)))
                                          have o17 : t.toInt ≠ 17 := fun q9 => e17 (Int32.toInt_inj.mp (q9.trans (by decide)))
                                          refine lv_tableOut (tgt := 1484) hx hb d_LW_law_40 (by omega) (by decide) ?_
                                          refine W.widen (k := 57 + j + 1) (n := 5991 + 6 * j + 6) (by omega) (by omega) ?_
                                          exact k1484 σ τ y hIs H locs ls hi hP hS (lv_sub hl [0, 1, 2, 3, 4] rfl)
