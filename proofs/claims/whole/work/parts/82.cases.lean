set_option maxHeartbeats 4000000 in
set_option maxRecDepth 100000 in
theorem lc_last {p : Program} {l : Launch} {e : Env} {s : State} {m : MethodId} {below : List Frame} {meth : Method} {c : Code} {b L : Nat} {xs : Nat → Int32} {G : va_G} {cI cZ cJ : ClassId} {ad : Nat → Nat} {aO : Nat} {am : Nat → Nat} (hfl : l.flags = pinnedFlags ++ [noTraceFlag]) (E : EL p s m meth c b L xs G cI cZ cJ ad aO am) {σ σ' τ τ' : Sg} {y y' : Nat → Int64} {i : Nat} {x4 : Int32} (ex : x4 = nI i) (hi : i + 6 ≤ L) {k b9 : Int32} (g1 : h_last σ y (xs (i + 1)) = some (k, y', σ')) (g2 : f_MD_last τ (xs (i + 1)) = some (b9, τ')) (g3 : f_MD_thrown τ' = some k) (g4 : k = 0 → y' (Int32.toNatClampNeg 0) = Int32.toInt64 b9) {H : Heap} {locs : List Loc} {cells slots : Nat} {ls : Array Slot} (hP : va_P G clX (wL ad cI cZ cJ aO am σ y τ) H) (hS : va_S (fun q : Nat => s.heap.size ≤ q) s.heap H locs) (hc : cells + 1 ≤ 1088) (hs : slots + 6 ≤ 14225) (hl : lv_has ls 7 [(0, .ref b), (1, .ref (ad 0)), (2, .ref (am 0)), (3, .ref aO), (4, .int x4)]) (kk : ∀ (H1 : Heap) (locs1 : List Loc) (ls1 : Array Slot), va_P G clX (wL ad cI cZ cJ aO am σ' y' τ') H1 → va_S (fun q : Nat => s.heap.size ≤ q) s.heap H1 locs1 → lv_has ls1 7 [(0, .ref b), (1, .ref (ad 0)), (2, .ref (am 0)), (3, .ref aO), (4, .int x4)] → W p l e room_1 s m #[Value.ref b] below meth c H1 locs1 (cells + 1) (slots + 6) (lw_Z below #[Value.ref b] s) (F0 m 1484 ls1 [])) : W p l e room_1 s m #[Value.ref b] below meth c H locs cells slots (lw_Z below #[Value.ref b] s) (F0 m 837 ls []) := by
  obtain ⟨hx, hb, hr, hml, hown, hts, hX, hbl, hlocks, hL, hE, hD⟩ := E
  have hbA : ¬ (fun q : Nat => s.heap.size ≤ q) b := Nat.not_le.mpr hbl
  refine lv_aload_n hx hb d_LW_law_837 rfl (lv_at hl 1 rfl) ?_
  refine lv_aload_n hx hb d_LW_law_838 rfl (lv_at hl 0 rfl) ?_
  refine lv_iload hx hb d_LW_law_839 (lv_at hl 4 rfl) ?_
  refine lv_iconst (v := nI 1) hx hb d_LW_law_841 (by decide) ?_
  refine lv_iadd hx hb d_LW_law_842 ?_
  refine va_sld hx hb hX hbl hbA hS (lw_ix (j := 1) (by omega) hL ex).1 d_LW_law_843 ?_
  refine W.eq (g2 := F0 m 844 ls [.int (xs (i + 1)), .ref (ad 0)]) (by rw [(lw_ix (j := 1) (show i + 1 < L by omega) hL ex).2]) ?_
  refine lv_aload_n hx hb d_LW_law_844 rfl (lv_at hl 3 rfl) ?_
  refine lw_help (n := 3) (As := [.ref (ad 0), .int (xs (i + 1)), .ref aO]) (rest := []) ⟨hx, hb, hml.trans hl.1.symm, hown, hts⟩ hD hE (c_LW_last l hfl s.heap.size G ad cI cZ cJ aO hD.1 σ y (xs (i + 1)) (k, y', σ') g1) rfl rfl ⟨Nat.le_of_ble_eq_true rfl, Nat.le_of_ble_eq_true rfl⟩ w_482 w_0 w_480 w_481 (by decide +kernel) hP hS rfl (Nat.le_of_ble_eq_true rfl) d_LW_law_845 ⟨hc, hs⟩ (fun H locs hP hS => ?_)
  have hP : va_P G clX (wL ad cI cZ cJ aO am σ' y' τ) H := hP
  refine lv_istore (lv' := [(5, .int k), (0, .ref b), (1, .ref (ad 0)), (2, .ref (am 0)), (3, .ref aO), (4, .int x4)]) hx hb d_LW_law_848 hl (by decide) rfl (fun ls hl => ?_)
  refine lv_aload_n hx hb d_LW_law_850 rfl (lv_at hl 3 rfl) ?_
  refine lv_aload_n hx hb d_LW_law_851 rfl (lv_at hl 1 rfl) ?_
  refine lv_iload hx hb d_LW_law_852 (lv_at hl 5 rfl) ?_
  refine lv_iconst (v := nI 1) hx hb d_LW_law_854 (by decide) ?_
  refine lv_iadd hx hb d_LW_law_855 ?_
  refine va_sld hx hb hX hbl hbA hS (lw_ix (j := 1) (by omega) hL ex).1 d_LW_law_856 ?_
  refine W.eq (g2 := F0 m 857 ls [.int (xs (i + 1)), .ref (am 0)]) (by rw [(lw_ix (j := 1) (show i + 1 < L by omega) hL ex).2]) ?_
  refine lw_model (As := [.int (xs (i + 1))]) (rest := []) ⟨hx, hb, hml.trans hl.1.symm, hown, hts⟩ hD hE (c_MD_last l G am cI cZ hD.2.1 τ (xs (i + 1)) (b9, τ') g2) (cwV 1 hts (wg_V w_812 w_813 w_814 w_8 w_815) rfl rfl rfl (by decide +kernel) ⟨Nat.le_of_ble_eq_true rfl, Nat.le_of_ble_eq_true rfl⟩) hP hS rfl (Nat.le_of_ble_eq_true rfl) d_LW_law_857 ⟨hc, hs⟩ (fun H locs hP hS => ?_)
  have hP : va_P G clX (wL ad cI cZ cJ aO am σ' y' τ') H := hP
  refine lv_istore (lv' := [(6, .int b9), (5, .int k), (0, .ref b), (1, .ref (ad 0)), (2, .ref (am 0)), (3, .ref aO), (4, .int x4)]) hx hb d_LW_law_860 hl (by decide) rfl (fun ls hl => ?_)
  refine lv_aload_n hx hb d_LW_law_862 rfl (lv_at hl 4 rfl) ?_
  refine lw_thrown (As := []) (rest := []) ⟨hx, hb, hml.trans hl.1.symm, hown, hts⟩ hE (c_MD_thrown l G am cI cZ τ' k g3) (cwV 0 hts (wg_V w_697 w_698 w_699 w_8 w_700) rfl rfl rfl (by decide +kernel) ⟨Nat.le_of_ble_eq_true rfl, Nat.le_of_ble_eq_true rfl⟩) hP rfl (Nat.le_of_ble_eq_true rfl) d_LW_law_863 ⟨hc, hs⟩ ?_
  refine lv_iload hx hb d_LW_law_866 (lv_at hl 1 rfl) ?_
  refine lv_icmp_eq (tgt := 873) hx hb d_LW_law_868 (by decide) (fun _ => ?_) (fun c8 => absurd rfl c8)
  refine lv_iload hx hb d_LW_law_873 (lv_at hl 1 rfl) ?_
  refine lv_if_ne (tgt := 890) hx hb d_LW_law_875 (by decide) (fun _ => ?_) (fun c7 => ?_)
  · refine lv_goto (tgt := 1484) hx hb d_LW_law_890 (by decide) ?_
    exact kk _ _ _ hP hS (lv_sub hl [2, 3, 4, 5, 6] rfl)
  · refine lv_aload_n hx hb d_LW_law_878 rfl (lv_at hl 5 rfl) ?_
    refine lv_iconst (v := 0) hx hb d_LW_law_879 (by decide) ?_
    refine va_lald (D := G) hx hb hE.2.2.1 (wL_h hP) 32 0 rfl rfl (inB_in (by decide)) d_LW_law_880 ?_
    refine lv_iload hx hb d_LW_law_881 (lv_at hl 0 rfl) ?_
    refine lv_i2l (v := Int32.toInt64 b9) hx hb d_LW_law_883 rfl ?_
    refine W.lcmp hx hb d_LW_law_884 ?_
    refine lv_if_eq (tgt := 890) hx hb d_LW_law_885 (by decide) (fun _ => ?_) (fun c5 => absurd (by rw [g4 c7]; exact lg_same _) c5)
    refine lv_goto (tgt := 1484) hx hb d_LW_law_890 (by decide) ?_
    exact kk _ _ _ hP hS (lv_sub hl [2, 3, 4, 5, 6] rfl)
set_option maxHeartbeats 4000000 in
set_option maxRecDepth 100000 in
theorem lc_history {p : Program} {l : Launch} {e : Env} {s : State} {m : MethodId} {below : List Frame} {meth : Method} {c : Code} {b L : Nat} {xs : Nat → Int32} {G : va_G} {cI cZ cJ : ClassId} {ad : Nat → Nat} {aO : Nat} {am : Nat → Nat} (hfl : l.flags = pinnedFlags ++ [noTraceFlag]) (E : EL p s m meth c b L xs G cI cZ cJ ad aO am) {σ σ' τ τ' : Sg} {y y' : Nat → Int64} {i : Nat} {x4 : Int32} (ex : x4 = nI i) (hi : i + 6 ≤ L) {k b9 : Int32} (g1 : h_history σ y (xs (i + 1)) (xs (i + 2)) (xs (i + 3)) = some (k, y', σ')) (g2 : f_MD_history τ (xs (i + 1)) (xs (i + 2)) (xs (i + 3)) = some (b9, τ')) (g3 : f_MD_thrown τ' = some k) (g4 : k = 0 → y' (Int32.toNatClampNeg 0) = Int32.toInt64 b9) {H : Heap} {locs : List Loc} {cells slots : Nat} {ls : Array Slot} (hP : va_P G clX (wL ad cI cZ cJ aO am σ y τ) H) (hS : va_S (fun q : Nat => s.heap.size ≤ q) s.heap H locs) (hc : cells + 1 ≤ 1088) (hs : slots + 6 ≤ 14225) (hl : lv_has ls 7 [(0, .ref b), (1, .ref (ad 0)), (2, .ref (am 0)), (3, .ref aO), (4, .int x4)]) (kk : ∀ (H1 : Heap) (locs1 : List Loc) (ls1 : Array Slot), va_P G clX (wL ad cI cZ cJ aO am σ' y' τ') H1 → va_S (fun q : Nat => s.heap.size ≤ q) s.heap H1 locs1 → lv_has ls1 7 [(0, .ref b), (1, .ref (ad 0)), (2, .ref (am 0)), (3, .ref aO), (4, .int x4)] → W p l e room_1 s m #[Value.ref b] below meth c H1 locs1 (cells + 1) (slots + 6) (lw_Z below #[Value.ref b] s) (F0 m 1484 ls1 [])) : W p l e room_1 s m #[Value.ref b] below meth c H locs cells slots (lw_Z below #[Value.ref b] s) (F0 m 893 ls []) := by
  obtain ⟨hx, hb, hr, hml, hown, hts, hX, hbl, hlocks, hL, hE, hD⟩ := E
  have hbA : ¬ (fun q : Nat => s.heap.size ≤ q) b := Nat.not_le.mpr hbl
  refine lv_aload_n hx hb d_LW_law_893 rfl (lv_at hl 1 rfl) ?_
  refine lv_aload_n hx hb d_LW_law_894 rfl (lv_at hl 0 rfl) ?_
  refine lv_iload hx hb d_LW_law_895 (lv_at hl 4 rfl) ?_
  refine lv_iconst (v := nI 1) hx hb d_LW_law_897 (by decide) ?_
  refine lv_iadd hx hb d_LW_law_898 ?_
  refine va_sld hx hb hX hbl hbA hS (lw_ix (j := 1) (by omega) hL ex).1 d_LW_law_899 ?_
  refine W.eq (g2 := F0 m 900 ls [.int (xs (i + 1)), .ref (ad 0)]) (by rw [(lw_ix (j := 1) (show i + 1 < L by omega) hL ex).2]) ?_
  refine lv_aload_n hx hb d_LW_law_900 rfl (lv_at hl 0 rfl) ?_
  refine lv_iload hx hb d_LW_law_901 (lv_at hl 4 rfl) ?_
  refine lv_iconst (v := nI 2) hx hb d_LW_law_903 (by decide) ?_
  refine lv_iadd hx hb d_LW_law_904 ?_
  refine va_sld hx hb hX hbl hbA hS (lw_ix (j := 2) (by omega) hL ex).1 d_LW_law_905 ?_
  refine W.eq (g2 := F0 m 906 ls [.int (xs (i + 2)), .int (xs (i + 1)), .ref (ad 0)]) (by rw [(lw_ix (j := 2) (show i + 2 < L by omega) hL ex).2]) ?_
  refine lv_aload_n hx hb d_LW_law_906 rfl (lv_at hl 0 rfl) ?_
  refine lv_iload hx hb d_LW_law_907 (lv_at hl 4 rfl) ?_
  refine lv_iconst (v := nI 3) hx hb d_LW_law_909 (by decide) ?_
  refine lv_iadd hx hb d_LW_law_910 ?_
  refine va_sld hx hb hX hbl hbA hS (lw_ix (j := 3) (by omega) hL ex).1 d_LW_law_911 ?_
  refine W.eq (g2 := F0 m 912 ls [.int (xs (i + 3)), .int (xs (i + 2)), .int (xs (i + 1)), .ref (ad 0)]) (by rw [(lw_ix (j := 3) (show i + 3 < L by omega) hL ex).2]) ?_
  refine lv_aload_n hx hb d_LW_law_912 rfl (lv_at hl 3 rfl) ?_
  refine lw_help (n := 5) (As := [.ref (ad 0), .int (xs (i + 1)), .int (xs (i + 2)), .int (xs (i + 3)), .ref aO]) (rest := []) ⟨hx, hb, hml.trans hl.1.symm, hown, hts⟩ hD hE (c_LW_history l hfl s.heap.size G ad cI cZ cJ aO hD.1 σ y (xs (i + 1)) (xs (i + 2)) (xs (i + 3)) (k, y', σ') g1) rfl rfl ⟨Nat.le_of_ble_eq_true rfl, Nat.le_of_ble_eq_true rfl⟩ w_494 w_0 w_492 w_493 (by decide +kernel) hP hS rfl (Nat.le_of_ble_eq_true rfl) d_LW_law_913 ⟨hc, hs⟩ (fun H locs hP hS => ?_)
  have hP : va_P G clX (wL ad cI cZ cJ aO am σ' y' τ) H := hP
  refine lv_istore (lv' := [(5, .int k), (0, .ref b), (1, .ref (ad 0)), (2, .ref (am 0)), (3, .ref aO), (4, .int x4)]) hx hb d_LW_law_916 hl (by decide) rfl (fun ls hl => ?_)
  refine lv_aload_n hx hb d_LW_law_918 rfl (lv_at hl 3 rfl) ?_
  refine lv_aload_n hx hb d_LW_law_919 rfl (lv_at hl 1 rfl) ?_
  refine lv_iload hx hb d_LW_law_920 (lv_at hl 5 rfl) ?_
  refine lv_iconst (v := nI 1) hx hb d_LW_law_922 (by decide) ?_
  refine lv_iadd hx hb d_LW_law_923 ?_
  refine va_sld hx hb hX hbl hbA hS (lw_ix (j := 1) (by omega) hL ex).1 d_LW_law_924 ?_
  refine W.eq (g2 := F0 m 925 ls [.int (xs (i + 1)), .ref (am 0)]) (by rw [(lw_ix (j := 1) (show i + 1 < L by omega) hL ex).2]) ?_
  refine lv_aload_n hx hb d_LW_law_925 rfl (lv_at hl 1 rfl) ?_
  refine lv_iload hx hb d_LW_law_926 (lv_at hl 5 rfl) ?_
  refine lv_iconst (v := nI 2) hx hb d_LW_law_928 (by decide) ?_
  refine lv_iadd hx hb d_LW_law_929 ?_
  refine va_sld hx hb hX hbl hbA hS (lw_ix (j := 2) (by omega) hL ex).1 d_LW_law_930 ?_
  refine W.eq (g2 := F0 m 931 ls [.int (xs (i + 2)), .int (xs (i + 1)), .ref (am 0)]) (by rw [(lw_ix (j := 2) (show i + 2 < L by omega) hL ex).2]) ?_
  refine lv_aload_n hx hb d_LW_law_931 rfl (lv_at hl 1 rfl) ?_
  refine lv_iload hx hb d_LW_law_932 (lv_at hl 5 rfl) ?_
  refine lv_iconst (v := nI 3) hx hb d_LW_law_934 (by decide) ?_
  refine lv_iadd hx hb d_LW_law_935 ?_
  refine va_sld hx hb hX hbl hbA hS (lw_ix (j := 3) (by omega) hL ex).1 d_LW_law_936 ?_
  refine W.eq (g2 := F0 m 937 ls [.int (xs (i + 3)), .int (xs (i + 2)), .int (xs (i + 1)), .ref (am 0)]) (by rw [(lw_ix (j := 3) (show i + 3 < L by omega) hL ex).2]) ?_
  refine lw_model (As := [.int (xs (i + 1)), .int (xs (i + 2)), .int (xs (i + 3))]) (rest := []) ⟨hx, hb, hml.trans hl.1.symm, hown, hts⟩ hD hE (c_MD_history l G am cI cZ hD.2.1 τ (xs (i + 1)) (xs (i + 2)) (xs (i + 3)) (b9, τ') g2) (cwV 3 hts (wg_V w_816 w_817 w_818 w_8 w_819) rfl rfl rfl (by decide +kernel) ⟨Nat.le_of_ble_eq_true rfl, Nat.le_of_ble_eq_true rfl⟩) hP hS rfl (Nat.le_of_ble_eq_true rfl) d_LW_law_937 ⟨hc, hs⟩ (fun H locs hP hS => ?_)
  have hP : va_P G clX (wL ad cI cZ cJ aO am σ' y' τ') H := hP
  refine lv_istore (lv' := [(6, .int b9), (5, .int k), (0, .ref b), (1, .ref (ad 0)), (2, .ref (am 0)), (3, .ref aO), (4, .int x4)]) hx hb d_LW_law_940 hl (by decide) rfl (fun ls hl => ?_)
  refine lv_aload_n hx hb d_LW_law_942 rfl (lv_at hl 4 rfl) ?_
  refine lw_thrown (As := []) (rest := []) ⟨hx, hb, hml.trans hl.1.symm, hown, hts⟩ hE (c_MD_thrown l G am cI cZ τ' k g3) (cwV 0 hts (wg_V w_697 w_698 w_699 w_8 w_700) rfl rfl rfl (by decide +kernel) ⟨Nat.le_of_ble_eq_true rfl, Nat.le_of_ble_eq_true rfl⟩) hP rfl (Nat.le_of_ble_eq_true rfl) d_LW_law_943 ⟨hc, hs⟩ ?_
  refine lv_iload hx hb d_LW_law_946 (lv_at hl 1 rfl) ?_
  refine lv_icmp_eq (tgt := 953) hx hb d_LW_law_948 (by decide) (fun _ => ?_) (fun c8 => absurd rfl c8)
  refine lv_iload hx hb d_LW_law_953 (lv_at hl 1 rfl) ?_
  refine lv_if_ne (tgt := 970) hx hb d_LW_law_955 (by decide) (fun _ => ?_) (fun c7 => ?_)
  · refine lv_goto (tgt := 1484) hx hb d_LW_law_970 (by decide) ?_
    exact kk _ _ _ hP hS (lv_sub hl [2, 3, 4, 5, 6] rfl)
  · refine lv_aload_n hx hb d_LW_law_958 rfl (lv_at hl 5 rfl) ?_
    refine lv_iconst (v := 0) hx hb d_LW_law_959 (by decide) ?_
    refine va_lald (D := G) hx hb hE.2.2.1 (wL_h hP) 32 0 rfl rfl (inB_in (by decide)) d_LW_law_960 ?_
    refine lv_iload hx hb d_LW_law_961 (lv_at hl 0 rfl) ?_
    refine lv_i2l (v := Int32.toInt64 b9) hx hb d_LW_law_963 rfl ?_
    refine W.lcmp hx hb d_LW_law_964 ?_
    refine lv_if_eq (tgt := 970) hx hb d_LW_law_965 (by decide) (fun _ => ?_) (fun c5 => absurd (by rw [g4 c7]; exact lg_same _) c5)
    refine lv_goto (tgt := 1484) hx hb d_LW_law_970 (by decide) ?_
    exact kk _ _ _ hP hS (lv_sub hl [2, 3, 4, 5, 6] rfl)
set_option maxHeartbeats 4000000 in
set_option maxRecDepth 100000 in
theorem lc_door {p : Program} {l : Launch} {e : Env} {s : State} {m : MethodId} {below : List Frame} {meth : Method} {c : Code} {b L : Nat} {xs : Nat → Int32} {G : va_G} {cI cZ cJ : ClassId} {ad : Nat → Nat} {aO : Nat} {am : Nat → Nat} (hfl : l.flags = pinnedFlags ++ [noTraceFlag]) (E : EL p s m meth c b L xs G cI cZ cJ ad aO am) {σ σ' τ τ' : Sg} {y y' : Nat → Int64} {i : Nat} {x4 : Int32} (ex : x4 = nI i) (hi : i + 6 ≤ L) {k b9 : Int32} (g1 : h_door σ y (xs (i + 1)) (xs (i + 2)) (xs (i + 3)) (xs (i + 4)) = some (k, y', σ')) (g2 : f_MD_door τ (xs (i + 1)) (xs (i + 2)) (xs (i + 3)) (xs (i + 4)) = some (b9, τ')) (g3 : f_MD_thrown τ' = some k) (g4 : k = 0 → y' (Int32.toNatClampNeg 0) = Int32.toInt64 b9) {H : Heap} {locs : List Loc} {cells slots : Nat} {ls : Array Slot} (hP : va_P G clX (wL ad cI cZ cJ aO am σ y τ) H) (hS : va_S (fun q : Nat => s.heap.size ≤ q) s.heap H locs) (hc : cells + 1 ≤ 1088) (hs : slots + 6 ≤ 14225) (hl : lv_has ls 7 [(0, .ref b), (1, .ref (ad 0)), (2, .ref (am 0)), (3, .ref aO), (4, .int x4)]) (kk : ∀ (H1 : Heap) (locs1 : List Loc) (ls1 : Array Slot), va_P G clX (wL ad cI cZ cJ aO am σ' y' τ') H1 → va_S (fun q : Nat => s.heap.size ≤ q) s.heap H1 locs1 → lv_has ls1 7 [(0, .ref b), (1, .ref (ad 0)), (2, .ref (am 0)), (3, .ref aO), (4, .int x4)] → W p l e room_1 s m #[Value.ref b] below meth c H1 locs1 (cells + 1) (slots + 6) (lw_Z below #[Value.ref b] s) (F0 m 1484 ls1 [])) : W p l e room_1 s m #[Value.ref b] below meth c H locs cells slots (lw_Z below #[Value.ref b] s) (F0 m 973 ls []) := by
  obtain ⟨hx, hb, hr, hml, hown, hts, hX, hbl, hlocks, hL, hE, hD⟩ := E
  have hbA : ¬ (fun q : Nat => s.heap.size ≤ q) b := Nat.not_le.mpr hbl
  refine lv_aload_n hx hb d_LW_law_973 rfl (lv_at hl 1 rfl) ?_
  refine lv_aload_n hx hb d_LW_law_974 rfl (lv_at hl 0 rfl) ?_
  refine lv_iload hx hb d_LW_law_975 (lv_at hl 4 rfl) ?_
  refine lv_iconst (v := nI 1) hx hb d_LW_law_977 (by decide) ?_
  refine lv_iadd hx hb d_LW_law_978 ?_
  refine va_sld hx hb hX hbl hbA hS (lw_ix (j := 1) (by omega) hL ex).1 d_LW_law_979 ?_
  refine W.eq (g2 := F0 m 980 ls [.int (xs (i + 1)), .ref (ad 0)]) (by rw [(lw_ix (j := 1) (show i + 1 < L by omega) hL ex).2]) ?_
  refine lv_aload_n hx hb d_LW_law_980 rfl (lv_at hl 0 rfl) ?_
  refine lv_iload hx hb d_LW_law_981 (lv_at hl 4 rfl) ?_
  refine lv_iconst (v := nI 2) hx hb d_LW_law_983 (by decide) ?_
  refine lv_iadd hx hb d_LW_law_984 ?_
  refine va_sld hx hb hX hbl hbA hS (lw_ix (j := 2) (by omega) hL ex).1 d_LW_law_985 ?_
  refine W.eq (g2 := F0 m 986 ls [.int (xs (i + 2)), .int (xs (i + 1)), .ref (ad 0)]) (by rw [(lw_ix (j := 2) (show i + 2 < L by omega) hL ex).2]) ?_
  refine lv_aload_n hx hb d_LW_law_986 rfl (lv_at hl 0 rfl) ?_
  refine lv_iload hx hb d_LW_law_987 (lv_at hl 4 rfl) ?_
  refine lv_iconst (v := nI 3) hx hb d_LW_law_989 (by decide) ?_
  refine lv_iadd hx hb d_LW_law_990 ?_
  refine va_sld hx hb hX hbl hbA hS (lw_ix (j := 3) (by omega) hL ex).1 d_LW_law_991 ?_
  refine W.eq (g2 := F0 m 992 ls [.int (xs (i + 3)), .int (xs (i + 2)), .int (xs (i + 1)), .ref (ad 0)]) (by rw [(lw_ix (j := 3) (show i + 3 < L by omega) hL ex).2]) ?_
  refine lv_aload_n hx hb d_LW_law_992 rfl (lv_at hl 0 rfl) ?_
  refine lv_iload hx hb d_LW_law_993 (lv_at hl 4 rfl) ?_
  refine lv_iconst (v := nI 4) hx hb d_LW_law_995 (by decide) ?_
  refine lv_iadd hx hb d_LW_law_996 ?_
  refine va_sld hx hb hX hbl hbA hS (lw_ix (j := 4) (by omega) hL ex).1 d_LW_law_997 ?_
  refine W.eq (g2 := F0 m 998 ls [.int (xs (i + 4)), .int (xs (i + 3)), .int (xs (i + 2)), .int (xs (i + 1)), .ref (ad 0)]) (by rw [(lw_ix (j := 4) (show i + 4 < L by omega) hL ex).2]) ?_
  refine lv_aload_n hx hb d_LW_law_998 rfl (lv_at hl 3 rfl) ?_
  refine lw_help (n := 6) (As := [.ref (ad 0), .int (xs (i + 1)), .int (xs (i + 2)), .int (xs (i + 3)), .int (xs (i + 4)), .ref aO]) (rest := []) ⟨hx, hb, hml.trans hl.1.symm, hown, hts⟩ hD hE (c_LW_door l hfl s.heap.size G ad cI cZ cJ aO hD.1 σ y (xs (i + 1)) (xs (i + 2)) (xs (i + 3)) (xs (i + 4)) (k, y', σ') g1) rfl rfl ⟨Nat.le_of_ble_eq_true rfl, Nat.le_of_ble_eq_true rfl⟩ w_502 w_0 w_500 w_501 (by decide +kernel) hP hS rfl (Nat.le_of_ble_eq_true rfl) d_LW_law_999 ⟨hc, hs⟩ (fun H locs hP hS => ?_)
  have hP : va_P G clX (wL ad cI cZ cJ aO am σ' y' τ) H := hP
  refine lv_istore (lv' := [(5, .int k), (0, .ref b), (1, .ref (ad 0)), (2, .ref (am 0)), (3, .ref aO), (4, .int x4)]) hx hb d_LW_law_1002 hl (by decide) rfl (fun ls hl => ?_)
  refine lv_aload_n hx hb d_LW_law_1004 rfl (lv_at hl 3 rfl) ?_
  refine lv_aload_n hx hb d_LW_law_1005 rfl (lv_at hl 1 rfl) ?_
  refine lv_iload hx hb d_LW_law_1006 (lv_at hl 5 rfl) ?_
  refine lv_iconst (v := nI 1) hx hb d_LW_law_1008 (by decide) ?_
  refine lv_iadd hx hb d_LW_law_1009 ?_
  refine va_sld hx hb hX hbl hbA hS (lw_ix (j := 1) (by omega) hL ex).1 d_LW_law_1010 ?_
  refine W.eq (g2 := F0 m 1011 ls [.int (xs (i + 1)), .ref (am 0)]) (by rw [(lw_ix (j := 1) (show i + 1 < L by omega) hL ex).2]) ?_
  refine lv_aload_n hx hb d_LW_law_1011 rfl (lv_at hl 1 rfl) ?_
  refine lv_iload hx hb d_LW_law_1012 (lv_at hl 5 rfl) ?_
  refine lv_iconst (v := nI 2) hx hb d_LW_law_1014 (by decide) ?_
  refine lv_iadd hx hb d_LW_law_1015 ?_
  refine va_sld hx hb hX hbl hbA hS (lw_ix (j := 2) (by omega) hL ex).1 d_LW_law_1016 ?_
  refine W.eq (g2 := F0 m 1017 ls [.int (xs (i + 2)), .int (xs (i + 1)), .ref (am 0)]) (by rw [(lw_ix (j := 2) (show i + 2 < L by omega) hL ex).2]) ?_
  refine lv_aload_n hx hb d_LW_law_1017 rfl (lv_at hl 1 rfl) ?_
  refine lv_iload hx hb d_LW_law_1018 (lv_at hl 5 rfl) ?_
  refine lv_iconst (v := nI 3) hx hb d_LW_law_1020 (by decide) ?_
  refine lv_iadd hx hb d_LW_law_1021 ?_
  refine va_sld hx hb hX hbl hbA hS (lw_ix (j := 3) (by omega) hL ex).1 d_LW_law_1022 ?_
  refine W.eq (g2 := F0 m 1023 ls [.int (xs (i + 3)), .int (xs (i + 2)), .int (xs (i + 1)), .ref (am 0)]) (by rw [(lw_ix (j := 3) (show i + 3 < L by omega) hL ex).2]) ?_
  refine lv_aload_n hx hb d_LW_law_1023 rfl (lv_at hl 1 rfl) ?_
  refine lv_iload hx hb d_LW_law_1024 (lv_at hl 5 rfl) ?_
  refine lv_iconst (v := nI 4) hx hb d_LW_law_1026 (by decide) ?_
  refine lv_iadd hx hb d_LW_law_1027 ?_
  refine va_sld hx hb hX hbl hbA hS (lw_ix (j := 4) (by omega) hL ex).1 d_LW_law_1028 ?_
  refine W.eq (g2 := F0 m 1029 ls [.int (xs (i + 4)), .int (xs (i + 3)), .int (xs (i + 2)), .int (xs (i + 1)), .ref (am 0)]) (by rw [(lw_ix (j := 4) (show i + 4 < L by omega) hL ex).2]) ?_
  refine lw_model (As := [.int (xs (i + 1)), .int (xs (i + 2)), .int (xs (i + 3)), .int (xs (i + 4))]) (rest := []) ⟨hx, hb, hml.trans hl.1.symm, hown, hts⟩ hD hE (c_MD_door l G am cI cZ hD.2.1 τ (xs (i + 1)) (xs (i + 2)) (xs (i + 3)) (xs (i + 4)) (b9, τ') g2) (cwV 4 hts (wg_V w_820 w_821 w_822 w_8 w_823) rfl rfl rfl (by decide +kernel) ⟨Nat.le_of_ble_eq_true rfl, Nat.le_of_ble_eq_true rfl⟩) hP hS rfl (Nat.le_of_ble_eq_true rfl) d_LW_law_1029 ⟨hc, hs⟩ (fun H locs hP hS => ?_)
  have hP : va_P G clX (wL ad cI cZ cJ aO am σ' y' τ') H := hP
  refine lv_istore (lv' := [(6, .int b9), (5, .int k), (0, .ref b), (1, .ref (ad 0)), (2, .ref (am 0)), (3, .ref aO), (4, .int x4)]) hx hb d_LW_law_1032 hl (by decide) rfl (fun ls hl => ?_)
  refine lv_aload_n hx hb d_LW_law_1034 rfl (lv_at hl 4 rfl) ?_
  refine lw_thrown (As := []) (rest := []) ⟨hx, hb, hml.trans hl.1.symm, hown, hts⟩ hE (c_MD_thrown l G am cI cZ τ' k g3) (cwV 0 hts (wg_V w_697 w_698 w_699 w_8 w_700) rfl rfl rfl (by decide +kernel) ⟨Nat.le_of_ble_eq_true rfl, Nat.le_of_ble_eq_true rfl⟩) hP rfl (Nat.le_of_ble_eq_true rfl) d_LW_law_1035 ⟨hc, hs⟩ ?_
  refine lv_iload hx hb d_LW_law_1038 (lv_at hl 1 rfl) ?_
  refine lv_icmp_eq (tgt := 1045) hx hb d_LW_law_1040 (by decide) (fun _ => ?_) (fun c8 => absurd rfl c8)
  refine lv_iload hx hb d_LW_law_1045 (lv_at hl 1 rfl) ?_
  refine lv_if_ne (tgt := 1062) hx hb d_LW_law_1047 (by decide) (fun _ => ?_) (fun c7 => ?_)
  · refine lv_goto (tgt := 1484) hx hb d_LW_law_1062 (by decide) ?_
    exact kk _ _ _ hP hS (lv_sub hl [2, 3, 4, 5, 6] rfl)
  · refine lv_aload_n hx hb d_LW_law_1050 rfl (lv_at hl 5 rfl) ?_
    refine lv_iconst (v := 0) hx hb d_LW_law_1051 (by decide) ?_
    refine va_lald (D := G) hx hb hE.2.2.1 (wL_h hP) 32 0 rfl rfl (inB_in (by decide)) d_LW_law_1052 ?_
    refine lv_iload hx hb d_LW_law_1053 (lv_at hl 0 rfl) ?_
    refine lv_i2l (v := Int32.toInt64 b9) hx hb d_LW_law_1055 rfl ?_
    refine W.lcmp hx hb d_LW_law_1056 ?_
    refine lv_if_eq (tgt := 1062) hx hb d_LW_law_1057 (by decide) (fun _ => ?_) (fun c5 => absurd (by rw [g4 c7]; exact lg_same _) c5)
    refine lv_goto (tgt := 1484) hx hb d_LW_law_1062 (by decide) ?_
    exact kk _ _ _ hP hS (lv_sub hl [2, 3, 4, 5, 6] rfl)
set_option maxHeartbeats 4000000 in
set_option maxRecDepth 100000 in
theorem lc_passes {p : Program} {l : Launch} {e : Env} {s : State} {m : MethodId} {below : List Frame} {meth : Method} {c : Code} {b L : Nat} {xs : Nat → Int32} {G : va_G} {cI cZ cJ : ClassId} {ad : Nat → Nat} {aO : Nat} {am : Nat → Nat} (hfl : l.flags = pinnedFlags ++ [noTraceFlag]) (E : EL p s m meth c b L xs G cI cZ cJ ad aO am) {σ σ' τ τ' : Sg} {y y' : Nat → Int64} {i : Nat} {x4 : Int32} (ex : x4 = nI i) (hi : i + 6 ≤ L) {k b9 : Int32} (g1 : h_passes σ y (xs (i + 1)) (xs (i + 2)) = some (k, y', σ')) (g2 : f_MD_passes τ (xs (i + 1)) (xs (i + 2)) = some (b9, τ')) (g3 : f_MD_thrown τ' = some k) (g4 : k = 0 → y' (Int32.toNatClampNeg 0) = if b9 = 0 then 0 else 1) {H : Heap} {locs : List Loc} {cells slots : Nat} {ls : Array Slot} (hP : va_P G clX (wL ad cI cZ cJ aO am σ y τ) H) (hS : va_S (fun q : Nat => s.heap.size ≤ q) s.heap H locs) (hc : cells + 1 ≤ 1088) (hs : slots + 6 ≤ 14225) (hl : lv_has ls 7 [(0, .ref b), (1, .ref (ad 0)), (2, .ref (am 0)), (3, .ref aO), (4, .int x4)]) (kk : ∀ (H1 : Heap) (locs1 : List Loc) (ls1 : Array Slot), va_P G clX (wL ad cI cZ cJ aO am σ' y' τ') H1 → va_S (fun q : Nat => s.heap.size ≤ q) s.heap H1 locs1 → lv_has ls1 7 [(0, .ref b), (1, .ref (ad 0)), (2, .ref (am 0)), (3, .ref aO), (4, .int x4)] → W p l e room_1 s m #[Value.ref b] below meth c H1 locs1 (cells + 1) (slots + 6) (lw_Z below #[Value.ref b] s) (F0 m 1484 ls1 [])) : W p l e room_1 s m #[Value.ref b] below meth c H locs cells slots (lw_Z below #[Value.ref b] s) (F0 m 1065 ls []) := by
  obtain ⟨hx, hb, hr, hml, hown, hts, hX, hbl, hlocks, hL, hE, hD⟩ := E
  have hbA : ¬ (fun q : Nat => s.heap.size ≤ q) b := Nat.not_le.mpr hbl
  refine lv_aload_n hx hb d_LW_law_1065 rfl (lv_at hl 1 rfl) ?_
  refine lv_aload_n hx hb d_LW_law_1066 rfl (lv_at hl 0 rfl) ?_
  refine lv_iload hx hb d_LW_law_1067 (lv_at hl 4 rfl) ?_
  refine lv_iconst (v := nI 1) hx hb d_LW_law_1069 (by decide) ?_
  refine lv_iadd hx hb d_LW_law_1070 ?_
  refine va_sld hx hb hX hbl hbA hS (lw_ix (j := 1) (by omega) hL ex).1 d_LW_law_1071 ?_
  refine W.eq (g2 := F0 m 1072 ls [.int (xs (i + 1)), .ref (ad 0)]) (by rw [(lw_ix (j := 1) (show i + 1 < L by omega) hL ex).2]) ?_
  refine lv_aload_n hx hb d_LW_law_1072 rfl (lv_at hl 0 rfl) ?_
  refine lv_iload hx hb d_LW_law_1073 (lv_at hl 4 rfl) ?_
  refine lv_iconst (v := nI 2) hx hb d_LW_law_1075 (by decide) ?_
  refine lv_iadd hx hb d_LW_law_1076 ?_
  refine va_sld hx hb hX hbl hbA hS (lw_ix (j := 2) (by omega) hL ex).1 d_LW_law_1077 ?_
  refine W.eq (g2 := F0 m 1078 ls [.int (xs (i + 2)), .int (xs (i + 1)), .ref (ad 0)]) (by rw [(lw_ix (j := 2) (show i + 2 < L by omega) hL ex).2]) ?_
  refine lv_aload_n hx hb d_LW_law_1078 rfl (lv_at hl 3 rfl) ?_
  refine lw_help (n := 4) (As := [.ref (ad 0), .int (xs (i + 1)), .int (xs (i + 2)), .ref aO]) (rest := []) ⟨hx, hb, hml.trans hl.1.symm, hown, hts⟩ hD hE (c_LW_passes l hfl s.heap.size G ad cI cZ cJ aO hD.1 σ y (xs (i + 1)) (xs (i + 2)) (k, y', σ') g1) rfl rfl ⟨Nat.le_of_ble_eq_true rfl, Nat.le_of_ble_eq_true rfl⟩ w_516 w_0 w_514 w_515 (by decide +kernel) hP hS rfl (Nat.le_of_ble_eq_true rfl) d_LW_law_1079 ⟨hc, hs⟩ (fun H locs hP hS => ?_)
  have hP : va_P G clX (wL ad cI cZ cJ aO am σ' y' τ) H := hP
  refine lv_istore (lv' := [(5, .int k), (0, .ref b), (1, .ref (ad 0)), (2, .ref (am 0)), (3, .ref aO), (4, .int x4)]) hx hb d_LW_law_1082 hl (by decide) rfl (fun ls hl => ?_)
  refine lv_aload_n hx hb d_LW_law_1084 rfl (lv_at hl 3 rfl) ?_
  refine lv_aload_n hx hb d_LW_law_1085 rfl (lv_at hl 1 rfl) ?_
  refine lv_iload hx hb d_LW_law_1086 (lv_at hl 5 rfl) ?_
  refine lv_iconst (v := nI 1) hx hb d_LW_law_1088 (by decide) ?_
  refine lv_iadd hx hb d_LW_law_1089 ?_
  refine va_sld hx hb hX hbl hbA hS (lw_ix (j := 1) (by omega) hL ex).1 d_LW_law_1090 ?_
  refine W.eq (g2 := F0 m 1091 ls [.int (xs (i + 1)), .ref (am 0)]) (by rw [(lw_ix (j := 1) (show i + 1 < L by omega) hL ex).2]) ?_
  refine lv_aload_n hx hb d_LW_law_1091 rfl (lv_at hl 1 rfl) ?_
  refine lv_iload hx hb d_LW_law_1092 (lv_at hl 5 rfl) ?_
  refine lv_iconst (v := nI 2) hx hb d_LW_law_1094 (by decide) ?_
  refine lv_iadd hx hb d_LW_law_1095 ?_
  refine va_sld hx hb hX hbl hbA hS (lw_ix (j := 2) (by omega) hL ex).1 d_LW_law_1096 ?_
  refine W.eq (g2 := F0 m 1097 ls [.int (xs (i + 2)), .int (xs (i + 1)), .ref (am 0)]) (by rw [(lw_ix (j := 2) (show i + 2 < L by omega) hL ex).2]) ?_
  refine lw_model (As := [.int (xs (i + 1)), .int (xs (i + 2))]) (rest := []) ⟨hx, hb, hml.trans hl.1.symm, hown, hts⟩ hD hE (c_MD_passes l G am cI cZ hD.2.1 τ (xs (i + 1)) (xs (i + 2)) (b9, τ') g2) (cwV 2 hts (wg_V w_824 w_825 w_826 w_8 w_827) rfl rfl rfl (by decide +kernel) ⟨Nat.le_of_ble_eq_true rfl, Nat.le_of_ble_eq_true rfl⟩) hP hS rfl (Nat.le_of_ble_eq_true rfl) d_LW_law_1097 ⟨hc, hs⟩ (fun H locs hP hS => ?_)
  have hP : va_P G clX (wL ad cI cZ cJ aO am σ' y' τ') H := hP
  refine lv_istore (lv' := [(6, .int b9), (5, .int k), (0, .ref b), (1, .ref (ad 0)), (2, .ref (am 0)), (3, .ref aO), (4, .int x4)]) hx hb d_LW_law_1100 hl (by decide) rfl (fun ls hl => ?_)
  refine lv_aload_n hx hb d_LW_law_1102 rfl (lv_at hl 4 rfl) ?_
  refine lw_thrown (As := []) (rest := []) ⟨hx, hb, hml.trans hl.1.symm, hown, hts⟩ hE (c_MD_thrown l G am cI cZ τ' k g3) (cwV 0 hts (wg_V w_697 w_698 w_699 w_8 w_700) rfl rfl rfl (by decide +kernel) ⟨Nat.le_of_ble_eq_true rfl, Nat.le_of_ble_eq_true rfl⟩) hP rfl (Nat.le_of_ble_eq_true rfl) d_LW_law_1103 ⟨hc, hs⟩ ?_
  refine lv_iload hx hb d_LW_law_1106 (lv_at hl 1 rfl) ?_
  refine lv_icmp_eq (tgt := 1113) hx hb d_LW_law_1108 (by decide) (fun _ => ?_) (fun c8 => absurd rfl c8)
  refine lv_iload hx hb d_LW_law_1113 (lv_at hl 1 rfl) ?_
  refine lv_if_ne (tgt := 1137) hx hb d_LW_law_1115 (by decide) (fun _ => ?_) (fun c7 => ?_)
  · refine lv_goto (tgt := 1484) hx hb d_LW_law_1137 (by decide) ?_
    exact kk _ _ _ hP hS (lv_sub hl [2, 3, 4, 5, 6] rfl)
  · refine lv_aload_n hx hb d_LW_law_1118 rfl (lv_at hl 5 rfl) ?_
    refine lv_iconst (v := 0) hx hb d_LW_law_1119 (by decide) ?_
    refine va_lald (D := G) hx hb hE.2.2.1 (wL_h hP) 32 0 rfl rfl (inB_in (by decide)) d_LW_law_1120 ?_
    refine lv_iload hx hb d_LW_law_1121 (lv_at hl 0 rfl) ?_
    refine lv_if_eq (tgt := 1130) hx hb d_LW_law_1123 (by decide) (fun c6 => ?_) (fun c6 => ?_)
    · refine lv_lconst (v := 0) hx hb d_LW_law_1130 (by decide) ?_
      refine W.lcmp hx hb d_LW_law_1131 ?_
      refine lv_if_eq (tgt := 1137) hx hb d_LW_law_1132 (by decide) (fun _ => ?_) (fun c5 => absurd (by rw [g4 c7, if_pos c6]; exact lg_same _) c5)
      refine lv_goto (tgt := 1484) hx hb d_LW_law_1137 (by decide) ?_
      exact kk _ _ _ hP hS (lv_sub hl [2, 3, 4, 5, 6] rfl)
    · refine lv_lconst (v := 1) hx hb d_LW_law_1126 (by decide) ?_
      refine lv_goto (tgt := 1131) hx hb d_LW_law_1127 (by decide) ?_
      refine W.lcmp hx hb d_LW_law_1131 ?_
      refine lv_if_eq (tgt := 1137) hx hb d_LW_law_1132 (by decide) (fun _ => ?_) (fun c5 => absurd (by rw [g4 c7, if_neg c6]; exact lg_same _) c5)
      refine lv_goto (tgt := 1484) hx hb d_LW_law_1137 (by decide) ?_
      exact kk _ _ _ hP hS (lv_sub hl [2, 3, 4, 5, 6] rfl)
set_option maxHeartbeats 4000000 in
set_option maxRecDepth 100000 in
theorem lc_way {p : Program} {l : Launch} {e : Env} {s : State} {m : MethodId} {below : List Frame} {meth : Method} {c : Code} {b L : Nat} {xs : Nat → Int32} {G : va_G} {cI cZ cJ : ClassId} {ad : Nat → Nat} {aO : Nat} {am : Nat → Nat} (hfl : l.flags = pinnedFlags ++ [noTraceFlag]) (E : EL p s m meth c b L xs G cI cZ cJ ad aO am) {σ σ' τ τ' : Sg} {y y' : Nat → Int64} {i : Nat} {x4 : Int32} (ex : x4 = nI i) (hi : i + 6 ≤ L) {k b9 : Int32} (g1 : h_way σ y (xs (i + 1)) (xs (i + 2)) = some (k, y', σ')) (g2 : f_MD_way τ (xs (i + 1)) (xs (i + 2)) = some (b9, τ')) (g3 : f_MD_thrown τ' = some k) (g4 : k = 0 → y' (Int32.toNatClampNeg 0) = Int32.toInt64 b9) {H : Heap} {locs : List Loc} {cells slots : Nat} {ls : Array Slot} (hP : va_P G clX (wL ad cI cZ cJ aO am σ y τ) H) (hS : va_S (fun q : Nat => s.heap.size ≤ q) s.heap H locs) (hc : cells + 1 ≤ 1088) (hs : slots + 6 ≤ 14225) (hl : lv_has ls 7 [(0, .ref b), (1, .ref (ad 0)), (2, .ref (am 0)), (3, .ref aO), (4, .int x4)]) (kk : ∀ (H1 : Heap) (locs1 : List Loc) (ls1 : Array Slot), va_P G clX (wL ad cI cZ cJ aO am σ' y' τ') H1 → va_S (fun q : Nat => s.heap.size ≤ q) s.heap H1 locs1 → lv_has ls1 7 [(0, .ref b), (1, .ref (ad 0)), (2, .ref (am 0)), (3, .ref aO), (4, .int x4)] → W p l e room_1 s m #[Value.ref b] below meth c H1 locs1 (cells + 1) (slots + 6) (lw_Z below #[Value.ref b] s) (F0 m 1484 ls1 [])) : W p l e room_1 s m #[Value.ref b] below meth c H locs cells slots (lw_Z below #[Value.ref b] s) (F0 m 1140 ls []) := by
  obtain ⟨hx, hb, hr, hml, hown, hts, hX, hbl, hlocks, hL, hE, hD⟩ := E
  have hbA : ¬ (fun q : Nat => s.heap.size ≤ q) b := Nat.not_le.mpr hbl
  refine lv_aload_n hx hb d_LW_law_1140 rfl (lv_at hl 1 rfl) ?_
  refine lv_aload_n hx hb d_LW_law_1141 rfl (lv_at hl 0 rfl) ?_
  refine lv_iload hx hb d_LW_law_1142 (lv_at hl 4 rfl) ?_
  refine lv_iconst (v := nI 1) hx hb d_LW_law_1144 (by decide) ?_
  refine lv_iadd hx hb d_LW_law_1145 ?_
  refine va_sld hx hb hX hbl hbA hS (lw_ix (j := 1) (by omega) hL ex).1 d_LW_law_1146 ?_
  refine W.eq (g2 := F0 m 1147 ls [.int (xs (i + 1)), .ref (ad 0)]) (by rw [(lw_ix (j := 1) (show i + 1 < L by omega) hL ex).2]) ?_
  refine lv_aload_n hx hb d_LW_law_1147 rfl (lv_at hl 0 rfl) ?_
  refine lv_iload hx hb d_LW_law_1148 (lv_at hl 4 rfl) ?_
  refine lv_iconst (v := nI 2) hx hb d_LW_law_1150 (by decide) ?_
  refine lv_iadd hx hb d_LW_law_1151 ?_
  refine va_sld hx hb hX hbl hbA hS (lw_ix (j := 2) (by omega) hL ex).1 d_LW_law_1152 ?_
  refine W.eq (g2 := F0 m 1153 ls [.int (xs (i + 2)), .int (xs (i + 1)), .ref (ad 0)]) (by rw [(lw_ix (j := 2) (show i + 2 < L by omega) hL ex).2]) ?_
  refine lv_aload_n hx hb d_LW_law_1153 rfl (lv_at hl 3 rfl) ?_
  refine lw_help (n := 4) (As := [.ref (ad 0), .int (xs (i + 1)), .int (xs (i + 2)), .ref aO]) (rest := []) ⟨hx, hb, hml.trans hl.1.symm, hown, hts⟩ hD hE (c_LW_way l hfl s.heap.size G ad cI cZ cJ aO hD.1 σ y (xs (i + 1)) (xs (i + 2)) (k, y', σ') g1) rfl rfl ⟨Nat.le_of_ble_eq_true rfl, Nat.le_of_ble_eq_true rfl⟩ w_535 w_0 w_533 w_534 (by decide +kernel) hP hS rfl (Nat.le_of_ble_eq_true rfl) d_LW_law_1154 ⟨hc, hs⟩ (fun H locs hP hS => ?_)
  have hP : va_P G clX (wL ad cI cZ cJ aO am σ' y' τ) H := hP
  refine lv_istore (lv' := [(5, .int k), (0, .ref b), (1, .ref (ad 0)), (2, .ref (am 0)), (3, .ref aO), (4, .int x4)]) hx hb d_LW_law_1157 hl (by decide) rfl (fun ls hl => ?_)
  refine lv_aload_n hx hb d_LW_law_1159 rfl (lv_at hl 3 rfl) ?_
  refine lv_aload_n hx hb d_LW_law_1160 rfl (lv_at hl 1 rfl) ?_
  refine lv_iload hx hb d_LW_law_1161 (lv_at hl 5 rfl) ?_
  refine lv_iconst (v := nI 1) hx hb d_LW_law_1163 (by decide) ?_
  refine lv_iadd hx hb d_LW_law_1164 ?_
  refine va_sld hx hb hX hbl hbA hS (lw_ix (j := 1) (by omega) hL ex).1 d_LW_law_1165 ?_
  refine W.eq (g2 := F0 m 1166 ls [.int (xs (i + 1)), .ref (am 0)]) (by rw [(lw_ix (j := 1) (show i + 1 < L by omega) hL ex).2]) ?_
  refine lv_aload_n hx hb d_LW_law_1166 rfl (lv_at hl 1 rfl) ?_
  refine lv_iload hx hb d_LW_law_1167 (lv_at hl 5 rfl) ?_
  refine lv_iconst (v := nI 2) hx hb d_LW_law_1169 (by decide) ?_
  refine lv_iadd hx hb d_LW_law_1170 ?_
  refine va_sld hx hb hX hbl hbA hS (lw_ix (j := 2) (by omega) hL ex).1 d_LW_law_1171 ?_
  refine W.eq (g2 := F0 m 1172 ls [.int (xs (i + 2)), .int (xs (i + 1)), .ref (am 0)]) (by rw [(lw_ix (j := 2) (show i + 2 < L by omega) hL ex).2]) ?_
  refine lw_model (As := [.int (xs (i + 1)), .int (xs (i + 2))]) (rest := []) ⟨hx, hb, hml.trans hl.1.symm, hown, hts⟩ hD hE (c_MD_way l G am cI cZ hD.2.1 τ (xs (i + 1)) (xs (i + 2)) (b9, τ') g2) (cwV 2 hts (wg_V w_836 w_837 w_838 w_8 w_839) rfl rfl rfl (by decide +kernel) ⟨Nat.le_of_ble_eq_true rfl, Nat.le_of_ble_eq_true rfl⟩) hP hS rfl (Nat.le_of_ble_eq_true rfl) d_LW_law_1172 ⟨hc, hs⟩ (fun H locs hP hS => ?_)
  have hP : va_P G clX (wL ad cI cZ cJ aO am σ' y' τ') H := hP
  refine lv_istore (lv' := [(6, .int b9), (5, .int k), (0, .ref b), (1, .ref (ad 0)), (2, .ref (am 0)), (3, .ref aO), (4, .int x4)]) hx hb d_LW_law_1175 hl (by decide) rfl (fun ls hl => ?_)
  refine lv_aload_n hx hb d_LW_law_1177 rfl (lv_at hl 4 rfl) ?_
  refine lw_thrown (As := []) (rest := []) ⟨hx, hb, hml.trans hl.1.symm, hown, hts⟩ hE (c_MD_thrown l G am cI cZ τ' k g3) (cwV 0 hts (wg_V w_697 w_698 w_699 w_8 w_700) rfl rfl rfl (by decide +kernel) ⟨Nat.le_of_ble_eq_true rfl, Nat.le_of_ble_eq_true rfl⟩) hP rfl (Nat.le_of_ble_eq_true rfl) d_LW_law_1178 ⟨hc, hs⟩ ?_
  refine lv_iload hx hb d_LW_law_1181 (lv_at hl 1 rfl) ?_
  refine lv_icmp_eq (tgt := 1188) hx hb d_LW_law_1183 (by decide) (fun _ => ?_) (fun c8 => absurd rfl c8)
  refine lv_iload hx hb d_LW_law_1188 (lv_at hl 1 rfl) ?_
  refine lv_if_ne (tgt := 1205) hx hb d_LW_law_1190 (by decide) (fun _ => ?_) (fun c7 => ?_)
  · refine lv_goto (tgt := 1484) hx hb d_LW_law_1205 (by decide) ?_
    exact kk _ _ _ hP hS (lv_sub hl [2, 3, 4, 5, 6] rfl)
  · refine lv_aload_n hx hb d_LW_law_1193 rfl (lv_at hl 5 rfl) ?_
    refine lv_iconst (v := 0) hx hb d_LW_law_1194 (by decide) ?_
    refine va_lald (D := G) hx hb hE.2.2.1 (wL_h hP) 32 0 rfl rfl (inB_in (by decide)) d_LW_law_1195 ?_
    refine lv_iload hx hb d_LW_law_1196 (lv_at hl 0 rfl) ?_
    refine lv_i2l (v := Int32.toInt64 b9) hx hb d_LW_law_1198 rfl ?_
    refine W.lcmp hx hb d_LW_law_1199 ?_
    refine lv_if_eq (tgt := 1205) hx hb d_LW_law_1200 (by decide) (fun _ => ?_) (fun c5 => absurd (by rw [g4 c7]; exact lg_same _) c5)
    refine lv_goto (tgt := 1484) hx hb d_LW_law_1205 (by decide) ?_
    exact kk _ _ _ hP hS (lv_sub hl [2, 3, 4, 5, 6] rfl)
set_option maxHeartbeats 4000000 in
set_option maxRecDepth 100000 in
theorem lc_planned {p : Program} {l : Launch} {e : Env} {s : State} {m : MethodId} {below : List Frame} {meth : Method} {c : Code} {b L : Nat} {xs : Nat → Int32} {G : va_G} {cI cZ cJ : ClassId} {ad : Nat → Nat} {aO : Nat} {am : Nat → Nat} (hfl : l.flags = pinnedFlags ++ [noTraceFlag]) (E : EL p s m meth c b L xs G cI cZ cJ ad aO am) {σ σ' τ τ' : Sg} {y y' : Nat → Int64} {i : Nat} {x4 : Int32} (ex : x4 = nI i) (hi : i + 6 ≤ L) {k b9 : Int32} (g1 : h_planned σ y (xs (i + 1)) (xs (i + 2)) (xs (i + 3)) (xs (i + 4)) = some (k, y', σ')) (g2 : f_MD_planned τ (xs (i + 1)) (xs (i + 2)) (xs (i + 3)) (xs (i + 4)) = some (b9, τ')) (g3 : f_MD_thrown τ' = some k) (g4 : k = 0 → y' (Int32.toNatClampNeg 0) = Int32.toInt64 b9) {H : Heap} {locs : List Loc} {cells slots : Nat} {ls : Array Slot} (hP : va_P G clX (wL ad cI cZ cJ aO am σ y τ) H) (hS : va_S (fun q : Nat => s.heap.size ≤ q) s.heap H locs) (hc : cells + 1 ≤ 1088) (hs : slots + 6 ≤ 14225) (hl : lv_has ls 7 [(0, .ref b), (1, .ref (ad 0)), (2, .ref (am 0)), (3, .ref aO), (4, .int x4)]) (kk : ∀ (H1 : Heap) (locs1 : List Loc) (ls1 : Array Slot), va_P G clX (wL ad cI cZ cJ aO am σ' y' τ') H1 → va_S (fun q : Nat => s.heap.size ≤ q) s.heap H1 locs1 → lv_has ls1 7 [(0, .ref b), (1, .ref (ad 0)), (2, .ref (am 0)), (3, .ref aO), (4, .int x4)] → W p l e room_1 s m #[Value.ref b] below meth c H1 locs1 (cells + 1) (slots + 6) (lw_Z below #[Value.ref b] s) (F0 m 1484 ls1 [])) : W p l e room_1 s m #[Value.ref b] below meth c H locs cells slots (lw_Z below #[Value.ref b] s) (F0 m 1208 ls []) := by
  obtain ⟨hx, hb, hr, hml, hown, hts, hX, hbl, hlocks, hL, hE, hD⟩ := E
  have hbA : ¬ (fun q : Nat => s.heap.size ≤ q) b := Nat.not_le.mpr hbl
  refine lv_aload_n hx hb d_LW_law_1208 rfl (lv_at hl 1 rfl) ?_
  refine lv_aload_n hx hb d_LW_law_1209 rfl (lv_at hl 0 rfl) ?_
  refine lv_iload hx hb d_LW_law_1210 (lv_at hl 4 rfl) ?_
  refine lv_iconst (v := nI 1) hx hb d_LW_law_1212 (by decide) ?_
  refine lv_iadd hx hb d_LW_law_1213 ?_
  refine va_sld hx hb hX hbl hbA hS (lw_ix (j := 1) (by omega) hL ex).1 d_LW_law_1214 ?_
  refine W.eq (g2 := F0 m 1215 ls [.int (xs (i + 1)), .ref (ad 0)]) (by rw [(lw_ix (j := 1) (show i + 1 < L by omega) hL ex).2]) ?_
  refine lv_aload_n hx hb d_LW_law_1215 rfl (lv_at hl 0 rfl) ?_
  refine lv_iload hx hb d_LW_law_1216 (lv_at hl 4 rfl) ?_
  refine lv_iconst (v := nI 2) hx hb d_LW_law_1218 (by decide) ?_
  refine lv_iadd hx hb d_LW_law_1219 ?_
  refine va_sld hx hb hX hbl hbA hS (lw_ix (j := 2) (by omega) hL ex).1 d_LW_law_1220 ?_
  refine W.eq (g2 := F0 m 1221 ls [.int (xs (i + 2)), .int (xs (i + 1)), .ref (ad 0)]) (by rw [(lw_ix (j := 2) (show i + 2 < L by omega) hL ex).2]) ?_
  refine lv_aload_n hx hb d_LW_law_1221 rfl (lv_at hl 0 rfl) ?_
  refine lv_iload hx hb d_LW_law_1222 (lv_at hl 4 rfl) ?_
  refine lv_iconst (v := nI 3) hx hb d_LW_law_1224 (by decide) ?_
  refine lv_iadd hx hb d_LW_law_1225 ?_
  refine va_sld hx hb hX hbl hbA hS (lw_ix (j := 3) (by omega) hL ex).1 d_LW_law_1226 ?_
  refine W.eq (g2 := F0 m 1227 ls [.int (xs (i + 3)), .int (xs (i + 2)), .int (xs (i + 1)), .ref (ad 0)]) (by rw [(lw_ix (j := 3) (show i + 3 < L by omega) hL ex).2]) ?_
  refine lv_aload_n hx hb d_LW_law_1227 rfl (lv_at hl 0 rfl) ?_
  refine lv_iload hx hb d_LW_law_1228 (lv_at hl 4 rfl) ?_
  refine lv_iconst (v := nI 4) hx hb d_LW_law_1230 (by decide) ?_
  refine lv_iadd hx hb d_LW_law_1231 ?_
  refine va_sld hx hb hX hbl hbA hS (lw_ix (j := 4) (by omega) hL ex).1 d_LW_law_1232 ?_
  refine W.eq (g2 := F0 m 1233 ls [.int (xs (i + 4)), .int (xs (i + 3)), .int (xs (i + 2)), .int (xs (i + 1)), .ref (ad 0)]) (by rw [(lw_ix (j := 4) (show i + 4 < L by omega) hL ex).2]) ?_
  refine lv_aload_n hx hb d_LW_law_1233 rfl (lv_at hl 3 rfl) ?_
  refine lw_help (n := 6) (As := [.ref (ad 0), .int (xs (i + 1)), .int (xs (i + 2)), .int (xs (i + 3)), .int (xs (i + 4)), .ref aO]) (rest := []) ⟨hx, hb, hml.trans hl.1.symm, hown, hts⟩ hD hE (c_LW_planned l hfl s.heap.size G ad cI cZ cJ aO hD.1 σ y (xs (i + 1)) (xs (i + 2)) (xs (i + 3)) (xs (i + 4)) (k, y', σ') g1) rfl rfl ⟨Nat.le_of_ble_eq_true rfl, Nat.le_of_ble_eq_true rfl⟩ w_554 w_0 w_552 w_553 (by decide +kernel) hP hS rfl (Nat.le_of_ble_eq_true rfl) d_LW_law_1234 ⟨hc, hs⟩ (fun H locs hP hS => ?_)
  have hP : va_P G clX (wL ad cI cZ cJ aO am σ' y' τ) H := hP
  refine lv_istore (lv' := [(5, .int k), (0, .ref b), (1, .ref (ad 0)), (2, .ref (am 0)), (3, .ref aO), (4, .int x4)]) hx hb d_LW_law_1237 hl (by decide) rfl (fun ls hl => ?_)
  refine lv_aload_n hx hb d_LW_law_1239 rfl (lv_at hl 3 rfl) ?_
  refine lv_aload_n hx hb d_LW_law_1240 rfl (lv_at hl 1 rfl) ?_
  refine lv_iload hx hb d_LW_law_1241 (lv_at hl 5 rfl) ?_
  refine lv_iconst (v := nI 1) hx hb d_LW_law_1243 (by decide) ?_
  refine lv_iadd hx hb d_LW_law_1244 ?_
  refine va_sld hx hb hX hbl hbA hS (lw_ix (j := 1) (by omega) hL ex).1 d_LW_law_1245 ?_
  refine W.eq (g2 := F0 m 1246 ls [.int (xs (i + 1)), .ref (am 0)]) (by rw [(lw_ix (j := 1) (show i + 1 < L by omega) hL ex).2]) ?_
  refine lv_aload_n hx hb d_LW_law_1246 rfl (lv_at hl 1 rfl) ?_
  refine lv_iload hx hb d_LW_law_1247 (lv_at hl 5 rfl) ?_
  refine lv_iconst (v := nI 2) hx hb d_LW_law_1249 (by decide) ?_
  refine lv_iadd hx hb d_LW_law_1250 ?_
  refine va_sld hx hb hX hbl hbA hS (lw_ix (j := 2) (by omega) hL ex).1 d_LW_law_1251 ?_
  refine W.eq (g2 := F0 m 1252 ls [.int (xs (i + 2)), .int (xs (i + 1)), .ref (am 0)]) (by rw [(lw_ix (j := 2) (show i + 2 < L by omega) hL ex).2]) ?_
  refine lv_aload_n hx hb d_LW_law_1252 rfl (lv_at hl 1 rfl) ?_
  refine lv_iload hx hb d_LW_law_1253 (lv_at hl 5 rfl) ?_
  refine lv_iconst (v := nI 3) hx hb d_LW_law_1255 (by decide) ?_
  refine lv_iadd hx hb d_LW_law_1256 ?_
  refine va_sld hx hb hX hbl hbA hS (lw_ix (j := 3) (by omega) hL ex).1 d_LW_law_1257 ?_
  refine W.eq (g2 := F0 m 1258 ls [.int (xs (i + 3)), .int (xs (i + 2)), .int (xs (i + 1)), .ref (am 0)]) (by rw [(lw_ix (j := 3) (show i + 3 < L by omega) hL ex).2]) ?_
  refine lv_aload_n hx hb d_LW_law_1258 rfl (lv_at hl 1 rfl) ?_
  refine lv_iload hx hb d_LW_law_1259 (lv_at hl 5 rfl) ?_
  refine lv_iconst (v := nI 4) hx hb d_LW_law_1261 (by decide) ?_
  refine lv_iadd hx hb d_LW_law_1262 ?_
  refine va_sld hx hb hX hbl hbA hS (lw_ix (j := 4) (by omega) hL ex).1 d_LW_law_1263 ?_
  refine W.eq (g2 := F0 m 1264 ls [.int (xs (i + 4)), .int (xs (i + 3)), .int (xs (i + 2)), .int (xs (i + 1)), .ref (am 0)]) (by rw [(lw_ix (j := 4) (show i + 4 < L by omega) hL ex).2]) ?_
  refine lw_model (As := [.int (xs (i + 1)), .int (xs (i + 2)), .int (xs (i + 3)), .int (xs (i + 4))]) (rest := []) ⟨hx, hb, hml.trans hl.1.symm, hown, hts⟩ hD hE (c_MD_planned l G am cI cZ hD.2.1 τ (xs (i + 1)) (xs (i + 2)) (xs (i + 3)) (xs (i + 4)) (b9, τ') g2) (cwV 4 hts (wg_V w_840 w_841 w_842 w_8 w_843) rfl rfl rfl (by decide +kernel) ⟨Nat.le_of_ble_eq_true rfl, Nat.le_of_ble_eq_true rfl⟩) hP hS rfl (Nat.le_of_ble_eq_true rfl) d_LW_law_1264 ⟨hc, hs⟩ (fun H locs hP hS => ?_)
  have hP : va_P G clX (wL ad cI cZ cJ aO am σ' y' τ') H := hP
  refine lv_istore (lv' := [(6, .int b9), (5, .int k), (0, .ref b), (1, .ref (ad 0)), (2, .ref (am 0)), (3, .ref aO), (4, .int x4)]) hx hb d_LW_law_1267 hl (by decide) rfl (fun ls hl => ?_)
  refine lv_aload_n hx hb d_LW_law_1269 rfl (lv_at hl 4 rfl) ?_
  refine lw_thrown (As := []) (rest := []) ⟨hx, hb, hml.trans hl.1.symm, hown, hts⟩ hE (c_MD_thrown l G am cI cZ τ' k g3) (cwV 0 hts (wg_V w_697 w_698 w_699 w_8 w_700) rfl rfl rfl (by decide +kernel) ⟨Nat.le_of_ble_eq_true rfl, Nat.le_of_ble_eq_true rfl⟩) hP rfl (Nat.le_of_ble_eq_true rfl) d_LW_law_1270 ⟨hc, hs⟩ ?_
  refine lv_iload hx hb d_LW_law_1273 (lv_at hl 1 rfl) ?_
  refine lv_icmp_eq (tgt := 1280) hx hb d_LW_law_1275 (by decide) (fun _ => ?_) (fun c8 => absurd rfl c8)
  refine lv_iload hx hb d_LW_law_1280 (lv_at hl 1 rfl) ?_
  refine lv_if_ne (tgt := 1297) hx hb d_LW_law_1282 (by decide) (fun _ => ?_) (fun c7 => ?_)
  · refine lv_goto (tgt := 1484) hx hb d_LW_law_1297 (by decide) ?_
    exact kk _ _ _ hP hS (lv_sub hl [2, 3, 4, 5, 6] rfl)
  · refine lv_aload_n hx hb d_LW_law_1285 rfl (lv_at hl 5 rfl) ?_
    refine lv_iconst (v := 0) hx hb d_LW_law_1286 (by decide) ?_
    refine va_lald (D := G) hx hb hE.2.2.1 (wL_h hP) 32 0 rfl rfl (inB_in (by decide)) d_LW_law_1287 ?_
    refine lv_iload hx hb d_LW_law_1288 (lv_at hl 0 rfl) ?_
    refine lv_i2l (v := Int32.toInt64 b9) hx hb d_LW_law_1290 rfl ?_
    refine W.lcmp hx hb d_LW_law_1291 ?_
    refine lv_if_eq (tgt := 1297) hx hb d_LW_law_1292 (by decide) (fun _ => ?_) (fun c5 => absurd (by rw [g4 c7]; exact lg_same _) c5)
    refine lv_goto (tgt := 1484) hx hb d_LW_law_1297 (by decide) ?_
    exact kk _ _ _ hP hS (lv_sub hl [2, 3, 4, 5, 6] rfl)
set_option maxHeartbeats 4000000 in
set_option maxRecDepth 100000 in
theorem lc_used {p : Program} {l : Launch} {e : Env} {s : State} {m : MethodId} {below : List Frame} {meth : Method} {c : Code} {b L : Nat} {xs : Nat → Int32} {G : va_G} {cI cZ cJ : ClassId} {ad : Nat → Nat} {aO : Nat} {am : Nat → Nat} (hfl : l.flags = pinnedFlags ++ [noTraceFlag]) (E : EL p s m meth c b L xs G cI cZ cJ ad aO am) {σ σ' τ τ' : Sg} {y y' : Nat → Int64} {i : Nat} {x4 : Int32} (ex : x4 = nI i) (hi : i + 6 ≤ L) {k b9 : Int32} (g1 : h_used σ y (xs (i + 1)) (xs (i + 2)) = some (k, y', σ')) (g2 : f_MD_used τ (xs (i + 1)) (xs (i + 2)) = some (b9, τ')) (g3 : f_MD_thrown τ' = some k) (g4 : k = 0 → y' (Int32.toNatClampNeg 0) = Int32.toInt64 b9) {H : Heap} {locs : List Loc} {cells slots : Nat} {ls : Array Slot} (hP : va_P G clX (wL ad cI cZ cJ aO am σ y τ) H) (hS : va_S (fun q : Nat => s.heap.size ≤ q) s.heap H locs) (hc : cells + 1 ≤ 1088) (hs : slots + 6 ≤ 14225) (hl : lv_has ls 7 [(0, .ref b), (1, .ref (ad 0)), (2, .ref (am 0)), (3, .ref aO), (4, .int x4)]) (kk : ∀ (H1 : Heap) (locs1 : List Loc) (ls1 : Array Slot), va_P G clX (wL ad cI cZ cJ aO am σ' y' τ') H1 → va_S (fun q : Nat => s.heap.size ≤ q) s.heap H1 locs1 → lv_has ls1 7 [(0, .ref b), (1, .ref (ad 0)), (2, .ref (am 0)), (3, .ref aO), (4, .int x4)] → W p l e room_1 s m #[Value.ref b] below meth c H1 locs1 (cells + 1) (slots + 6) (lw_Z below #[Value.ref b] s) (F0 m 1484 ls1 [])) : W p l e room_1 s m #[Value.ref b] below meth c H locs cells slots (lw_Z below #[Value.ref b] s) (F0 m 1300 ls []) := by
  obtain ⟨hx, hb, hr, hml, hown, hts, hX, hbl, hlocks, hL, hE, hD⟩ := E
  have hbA : ¬ (fun q : Nat => s.heap.size ≤ q) b := Nat.not_le.mpr hbl
  refine lv_aload_n hx hb d_LW_law_1300 rfl (lv_at hl 1 rfl) ?_
  refine lv_aload_n hx hb d_LW_law_1301 rfl (lv_at hl 0 rfl) ?_
  refine lv_iload hx hb d_LW_law_1302 (lv_at hl 4 rfl) ?_
  refine lv_iconst (v := nI 1) hx hb d_LW_law_1304 (by decide) ?_
  refine lv_iadd hx hb d_LW_law_1305 ?_
  refine va_sld hx hb hX hbl hbA hS (lw_ix (j := 1) (by omega) hL ex).1 d_LW_law_1306 ?_
  refine W.eq (g2 := F0 m 1307 ls [.int (xs (i + 1)), .ref (ad 0)]) (by rw [(lw_ix (j := 1) (show i + 1 < L by omega) hL ex).2]) ?_
  refine lv_aload_n hx hb d_LW_law_1307 rfl (lv_at hl 0 rfl) ?_
  refine lv_iload hx hb d_LW_law_1308 (lv_at hl 4 rfl) ?_
  refine lv_iconst (v := nI 2) hx hb d_LW_law_1310 (by decide) ?_
  refine lv_iadd hx hb d_LW_law_1311 ?_
  refine va_sld hx hb hX hbl hbA hS (lw_ix (j := 2) (by omega) hL ex).1 d_LW_law_1312 ?_
  refine W.eq (g2 := F0 m 1313 ls [.int (xs (i + 2)), .int (xs (i + 1)), .ref (ad 0)]) (by rw [(lw_ix (j := 2) (show i + 2 < L by omega) hL ex).2]) ?_
  refine lv_aload_n hx hb d_LW_law_1313 rfl (lv_at hl 3 rfl) ?_
  refine lw_help (n := 4) (As := [.ref (ad 0), .int (xs (i + 1)), .int (xs (i + 2)), .ref aO]) (rest := []) ⟨hx, hb, hml.trans hl.1.symm, hown, hts⟩ hD hE (c_LW_used l hfl s.heap.size G ad cI cZ cJ aO hD.1 σ y (xs (i + 1)) (xs (i + 2)) (k, y', σ') g1) rfl rfl ⟨Nat.le_of_ble_eq_true rfl, Nat.le_of_ble_eq_true rfl⟩ w_569 w_0 w_567 w_568 (by decide +kernel) hP hS rfl (Nat.le_of_ble_eq_true rfl) d_LW_law_1314 ⟨hc, hs⟩ (fun H locs hP hS => ?_)
  have hP : va_P G clX (wL ad cI cZ cJ aO am σ' y' τ) H := hP
  refine lv_istore (lv' := [(5, .int k), (0, .ref b), (1, .ref (ad 0)), (2, .ref (am 0)), (3, .ref aO), (4, .int x4)]) hx hb d_LW_law_1317 hl (by decide) rfl (fun ls hl => ?_)
  refine lv_aload_n hx hb d_LW_law_1319 rfl (lv_at hl 3 rfl) ?_
  refine lv_aload_n hx hb d_LW_law_1320 rfl (lv_at hl 1 rfl) ?_
  refine lv_iload hx hb d_LW_law_1321 (lv_at hl 5 rfl) ?_
  refine lv_iconst (v := nI 1) hx hb d_LW_law_1323 (by decide) ?_
  refine lv_iadd hx hb d_LW_law_1324 ?_
  refine va_sld hx hb hX hbl hbA hS (lw_ix (j := 1) (by omega) hL ex).1 d_LW_law_1325 ?_
  refine W.eq (g2 := F0 m 1326 ls [.int (xs (i + 1)), .ref (am 0)]) (by rw [(lw_ix (j := 1) (show i + 1 < L by omega) hL ex).2]) ?_
  refine lv_aload_n hx hb d_LW_law_1326 rfl (lv_at hl 1 rfl) ?_
  refine lv_iload hx hb d_LW_law_1327 (lv_at hl 5 rfl) ?_
  refine lv_iconst (v := nI 2) hx hb d_LW_law_1329 (by decide) ?_
  refine lv_iadd hx hb d_LW_law_1330 ?_
  refine va_sld hx hb hX hbl hbA hS (lw_ix (j := 2) (by omega) hL ex).1 d_LW_law_1331 ?_
  refine W.eq (g2 := F0 m 1332 ls [.int (xs (i + 2)), .int (xs (i + 1)), .ref (am 0)]) (by rw [(lw_ix (j := 2) (show i + 2 < L by omega) hL ex).2]) ?_
  refine lw_model (As := [.int (xs (i + 1)), .int (xs (i + 2))]) (rest := []) ⟨hx, hb, hml.trans hl.1.symm, hown, hts⟩ hD hE (c_MD_used l G am cI cZ hD.2.1 τ (xs (i + 1)) (xs (i + 2)) (b9, τ') g2) (cwV 2 hts (wg_V w_844 w_845 w_846 w_8 w_847) rfl rfl rfl (by decide +kernel) ⟨Nat.le_of_ble_eq_true rfl, Nat.le_of_ble_eq_true rfl⟩) hP hS rfl (Nat.le_of_ble_eq_true rfl) d_LW_law_1332 ⟨hc, hs⟩ (fun H locs hP hS => ?_)
  have hP : va_P G clX (wL ad cI cZ cJ aO am σ' y' τ') H := hP
  refine lv_istore (lv' := [(6, .int b9), (5, .int k), (0, .ref b), (1, .ref (ad 0)), (2, .ref (am 0)), (3, .ref aO), (4, .int x4)]) hx hb d_LW_law_1335 hl (by decide) rfl (fun ls hl => ?_)
  refine lv_aload_n hx hb d_LW_law_1337 rfl (lv_at hl 4 rfl) ?_
  refine lw_thrown (As := []) (rest := []) ⟨hx, hb, hml.trans hl.1.symm, hown, hts⟩ hE (c_MD_thrown l G am cI cZ τ' k g3) (cwV 0 hts (wg_V w_697 w_698 w_699 w_8 w_700) rfl rfl rfl (by decide +kernel) ⟨Nat.le_of_ble_eq_true rfl, Nat.le_of_ble_eq_true rfl⟩) hP rfl (Nat.le_of_ble_eq_true rfl) d_LW_law_1338 ⟨hc, hs⟩ ?_
  refine lv_iload hx hb d_LW_law_1341 (lv_at hl 1 rfl) ?_
  refine lv_icmp_eq (tgt := 1348) hx hb d_LW_law_1343 (by decide) (fun _ => ?_) (fun c8 => absurd rfl c8)
  refine lv_iload hx hb d_LW_law_1348 (lv_at hl 1 rfl) ?_
  refine lv_if_ne (tgt := 1365) hx hb d_LW_law_1350 (by decide) (fun _ => ?_) (fun c7 => ?_)
  · refine lv_goto (tgt := 1484) hx hb d_LW_law_1365 (by decide) ?_
    exact kk _ _ _ hP hS (lv_sub hl [2, 3, 4, 5, 6] rfl)
  · refine lv_aload_n hx hb d_LW_law_1353 rfl (lv_at hl 5 rfl) ?_
    refine lv_iconst (v := 0) hx hb d_LW_law_1354 (by decide) ?_
    refine va_lald (D := G) hx hb hE.2.2.1 (wL_h hP) 32 0 rfl rfl (inB_in (by decide)) d_LW_law_1355 ?_
    refine lv_iload hx hb d_LW_law_1356 (lv_at hl 0 rfl) ?_
    refine lv_i2l (v := Int32.toInt64 b9) hx hb d_LW_law_1358 rfl ?_
    refine W.lcmp hx hb d_LW_law_1359 ?_
    refine lv_if_eq (tgt := 1365) hx hb d_LW_law_1360 (by decide) (fun _ => ?_) (fun c5 => absurd (by rw [g4 c7]; exact lg_same _) c5)
    refine lv_goto (tgt := 1484) hx hb d_LW_law_1365 (by decide) ?_
    exact kk _ _ _ hP hS (lv_sub hl [2, 3, 4, 5, 6] rfl)
set_option maxHeartbeats 4000000 in
set_option maxRecDepth 100000 in
theorem lc_quiet {p : Program} {l : Launch} {e : Env} {s : State} {m : MethodId} {below : List Frame} {meth : Method} {c : Code} {b L : Nat} {xs : Nat → Int32} {G : va_G} {cI cZ cJ : ClassId} {ad : Nat → Nat} {aO : Nat} {am : Nat → Nat} (hfl : l.flags = pinnedFlags ++ [noTraceFlag]) (E : EL p s m meth c b L xs G cI cZ cJ ad aO am) {σ σ' τ τ' : Sg} {y y' : Nat → Int64} {i : Nat} {x4 : Int32} (ex : x4 = nI i) (hi : i + 6 ≤ L) {k : Int32} (g1 : h_quiet σ y (xs (i + 1)) (xs (i + 2)) (xs (i + 3)) = some (k, y', σ')) (g2 : f_MD_quiet τ (xs (i + 1)) (xs (i + 2)) (xs (i + 3)) = some τ') (g3 : f_MD_thrown τ' = some k) {H : Heap} {locs : List Loc} {cells slots : Nat} {ls : Array Slot} (hP : va_P G clX (wL ad cI cZ cJ aO am σ y τ) H) (hS : va_S (fun q : Nat => s.heap.size ≤ q) s.heap H locs) (hc : cells + 1 ≤ 1088) (hs : slots + 6 ≤ 14225) (hl : lv_has ls 7 [(0, .ref b), (1, .ref (ad 0)), (2, .ref (am 0)), (3, .ref aO), (4, .int x4)]) (kk : ∀ (H1 : Heap) (locs1 : List Loc) (ls1 : Array Slot), va_P G clX (wL ad cI cZ cJ aO am σ' y' τ') H1 → va_S (fun q : Nat => s.heap.size ≤ q) s.heap H1 locs1 → lv_has ls1 7 [(0, .ref b), (1, .ref (ad 0)), (2, .ref (am 0)), (3, .ref aO), (4, .int x4)] → W p l e room_1 s m #[Value.ref b] below meth c H1 locs1 (cells + 1) (slots + 6) (lw_Z below #[Value.ref b] s) (F0 m 1484 ls1 [])) : W p l e room_1 s m #[Value.ref b] below meth c H locs cells slots (lw_Z below #[Value.ref b] s) (F0 m 1368 ls []) := by
  obtain ⟨hx, hb, hr, hml, hown, hts, hX, hbl, hlocks, hL, hE, hD⟩ := E
  have hbA : ¬ (fun q : Nat => s.heap.size ≤ q) b := Nat.not_le.mpr hbl
  refine lv_aload_n hx hb d_LW_law_1368 rfl (lv_at hl 1 rfl) ?_
  refine lv_aload_n hx hb d_LW_law_1369 rfl (lv_at hl 0 rfl) ?_
  refine lv_iload hx hb d_LW_law_1370 (lv_at hl 4 rfl) ?_
  refine lv_iconst (v := nI 1) hx hb d_LW_law_1372 (by decide) ?_
  refine lv_iadd hx hb d_LW_law_1373 ?_
  refine va_sld hx hb hX hbl hbA hS (lw_ix (j := 1) (by omega) hL ex).1 d_LW_law_1374 ?_
  refine W.eq (g2 := F0 m 1375 ls [.int (xs (i + 1)), .ref (ad 0)]) (by rw [(lw_ix (j := 1) (show i + 1 < L by omega) hL ex).2]) ?_
  refine lv_aload_n hx hb d_LW_law_1375 rfl (lv_at hl 0 rfl) ?_
  refine lv_iload hx hb d_LW_law_1376 (lv_at hl 4 rfl) ?_
  refine lv_iconst (v := nI 2) hx hb d_LW_law_1378 (by decide) ?_
  refine lv_iadd hx hb d_LW_law_1379 ?_
  refine va_sld hx hb hX hbl hbA hS (lw_ix (j := 2) (by omega) hL ex).1 d_LW_law_1380 ?_
  refine W.eq (g2 := F0 m 1381 ls [.int (xs (i + 2)), .int (xs (i + 1)), .ref (ad 0)]) (by rw [(lw_ix (j := 2) (show i + 2 < L by omega) hL ex).2]) ?_
  refine lv_aload_n hx hb d_LW_law_1381 rfl (lv_at hl 0 rfl) ?_
  refine lv_iload hx hb d_LW_law_1382 (lv_at hl 4 rfl) ?_
  refine lv_iconst (v := nI 3) hx hb d_LW_law_1384 (by decide) ?_
  refine lv_iadd hx hb d_LW_law_1385 ?_
  refine va_sld hx hb hX hbl hbA hS (lw_ix (j := 3) (by omega) hL ex).1 d_LW_law_1386 ?_
  refine W.eq (g2 := F0 m 1387 ls [.int (xs (i + 3)), .int (xs (i + 2)), .int (xs (i + 1)), .ref (ad 0)]) (by rw [(lw_ix (j := 3) (show i + 3 < L by omega) hL ex).2]) ?_
  refine lw_help (n := 4) (As := [.ref (ad 0), .int (xs (i + 1)), .int (xs (i + 2)), .int (xs (i + 3))]) (rest := []) ⟨hx, hb, hml.trans hl.1.symm, hown, hts⟩ hD hE (c_LW_quiet l hfl s.heap.size G ad cI cZ cJ aO hD.1 σ y (xs (i + 1)) (xs (i + 2)) (xs (i + 3)) (k, y', σ') g1) rfl rfl ⟨Nat.le_of_ble_eq_true rfl, Nat.le_of_ble_eq_true rfl⟩ w_576 w_0 w_574 w_575 (by decide +kernel) hP hS rfl (Nat.le_of_ble_eq_true rfl) d_LW_law_1387 ⟨hc, hs⟩ (fun H locs hP hS => ?_)
  have hP : va_P G clX (wL ad cI cZ cJ aO am σ' y' τ) H := hP
  refine lv_istore (lv' := [(5, .int k), (0, .ref b), (1, .ref (ad 0)), (2, .ref (am 0)), (3, .ref aO), (4, .int x4)]) hx hb d_LW_law_1390 hl (by decide) rfl (fun ls hl => ?_)
  refine lv_aload_n hx hb d_LW_law_1392 rfl (lv_at hl 3 rfl) ?_
  refine lv_aload_n hx hb d_LW_law_1393 rfl (lv_at hl 1 rfl) ?_
  refine lv_iload hx hb d_LW_law_1394 (lv_at hl 5 rfl) ?_
  refine lv_iconst (v := nI 1) hx hb d_LW_law_1396 (by decide) ?_
  refine lv_iadd hx hb d_LW_law_1397 ?_
  refine va_sld hx hb hX hbl hbA hS (lw_ix (j := 1) (by omega) hL ex).1 d_LW_law_1398 ?_
  refine W.eq (g2 := F0 m 1399 ls [.int (xs (i + 1)), .ref (am 0)]) (by rw [(lw_ix (j := 1) (show i + 1 < L by omega) hL ex).2]) ?_
  refine lv_aload_n hx hb d_LW_law_1399 rfl (lv_at hl 1 rfl) ?_
  refine lv_iload hx hb d_LW_law_1400 (lv_at hl 5 rfl) ?_
  refine lv_iconst (v := nI 2) hx hb d_LW_law_1402 (by decide) ?_
  refine lv_iadd hx hb d_LW_law_1403 ?_
  refine va_sld hx hb hX hbl hbA hS (lw_ix (j := 2) (by omega) hL ex).1 d_LW_law_1404 ?_
  refine W.eq (g2 := F0 m 1405 ls [.int (xs (i + 2)), .int (xs (i + 1)), .ref (am 0)]) (by rw [(lw_ix (j := 2) (show i + 2 < L by omega) hL ex).2]) ?_
  refine lv_aload_n hx hb d_LW_law_1405 rfl (lv_at hl 1 rfl) ?_
  refine lv_iload hx hb d_LW_law_1406 (lv_at hl 5 rfl) ?_
  refine lv_iconst (v := nI 3) hx hb d_LW_law_1408 (by decide) ?_
  refine lv_iadd hx hb d_LW_law_1409 ?_
  refine va_sld hx hb hX hbl hbA hS (lw_ix (j := 3) (by omega) hL ex).1 d_LW_law_1410 ?_
  refine W.eq (g2 := F0 m 1411 ls [.int (xs (i + 3)), .int (xs (i + 2)), .int (xs (i + 1)), .ref (am 0)]) (by rw [(lw_ix (j := 3) (show i + 3 < L by omega) hL ex).2]) ?_
  refine lw_modelv (As := [.int (xs (i + 1)), .int (xs (i + 2)), .int (xs (i + 3))]) (rest := []) ⟨hx, hb, hml.trans hl.1.symm, hown, hts⟩ hD hE (c_MD_quiet l G am cI cZ hD.2.1 τ (xs (i + 1)) (xs (i + 2)) (xs (i + 3)) τ' g2) (cwV 3 hts (wg_V w_848 w_849 w_850 w_8 w_851) rfl rfl rfl (by decide +kernel) ⟨Nat.le_of_ble_eq_true rfl, Nat.le_of_ble_eq_true rfl⟩) hP hS rfl (Nat.le_of_ble_eq_true rfl) d_LW_law_1411 ⟨hc, hs⟩ (fun H locs hP hS => ?_)
  have hP : va_P G clX (wL ad cI cZ cJ aO am σ' y' τ') H := hP
  refine lv_aload_n hx hb d_LW_law_1414 rfl (lv_at hl 3 rfl) ?_
  refine lw_thrown (As := []) (rest := []) ⟨hx, hb, hml.trans hl.1.symm, hown, hts⟩ hE (c_MD_thrown l G am cI cZ τ' k g3) (cwV 0 hts (wg_V w_697 w_698 w_699 w_8 w_700) rfl rfl rfl (by decide +kernel) ⟨Nat.le_of_ble_eq_true rfl, Nat.le_of_ble_eq_true rfl⟩) hP rfl (Nat.le_of_ble_eq_true rfl) d_LW_law_1415 ⟨hc, hs⟩ ?_
  refine lv_iload hx hb d_LW_law_1418 (lv_at hl 0 rfl) ?_
  refine lv_icmp_eq (tgt := 1425) hx hb d_LW_law_1420 (by decide) (fun _ => ?_) (fun c8 => absurd rfl c8)
  refine lv_goto (tgt := 1484) hx hb d_LW_law_1425 (by decide) ?_
  exact kk _ _ _ hP hS (lv_sub hl [1, 2, 3, 4, 5] rfl)
set_option maxHeartbeats 4000000 in
set_option maxRecDepth 100000 in
theorem lc_count {p : Program} {l : Launch} {e : Env} {s : State} {m : MethodId} {below : List Frame} {meth : Method} {c : Code} {b L : Nat} {xs : Nat → Int32} {G : va_G} {cI cZ cJ : ClassId} {ad : Nat → Nat} {aO : Nat} {am : Nat → Nat} (hfl : l.flags = pinnedFlags ++ [noTraceFlag]) (E : EL p s m meth c b L xs G cI cZ cJ ad aO am) {σ σ' τ τ' : Sg} {y y' : Nat → Int64} {i : Nat} {x4 : Int32} (ex : x4 = nI i) (hi : i + 6 ≤ L) {k b9 : Int32} (g1 : h_count σ y (xs (i + 1)) = some (k, y', σ')) (g2 : f_MD_count τ (xs (i + 1)) = some (b9, τ')) (g3 : f_MD_thrown τ' = some k) (g4 : k = 0 → y' (Int32.toNatClampNeg 0) = Int32.toInt64 b9) {H : Heap} {locs : List Loc} {cells slots : Nat} {ls : Array Slot} (hP : va_P G clX (wL ad cI cZ cJ aO am σ y τ) H) (hS : va_S (fun q : Nat => s.heap.size ≤ q) s.heap H locs) (hc : cells + 1 ≤ 1088) (hs : slots + 6 ≤ 14225) (hl : lv_has ls 7 [(0, .ref b), (1, .ref (ad 0)), (2, .ref (am 0)), (3, .ref aO), (4, .int x4)]) (kk : ∀ (H1 : Heap) (locs1 : List Loc) (ls1 : Array Slot), va_P G clX (wL ad cI cZ cJ aO am σ' y' τ') H1 → va_S (fun q : Nat => s.heap.size ≤ q) s.heap H1 locs1 → lv_has ls1 7 [(0, .ref b), (1, .ref (ad 0)), (2, .ref (am 0)), (3, .ref aO), (4, .int x4)] → W p l e room_1 s m #[Value.ref b] below meth c H1 locs1 (cells + 1) (slots + 6) (lw_Z below #[Value.ref b] s) (F0 m 1484 ls1 [])) : W p l e room_1 s m #[Value.ref b] below meth c H locs cells slots (lw_Z below #[Value.ref b] s) (F0 m 1428 ls []) := by
  obtain ⟨hx, hb, hr, hml, hown, hts, hX, hbl, hlocks, hL, hE, hD⟩ := E
  have hbA : ¬ (fun q : Nat => s.heap.size ≤ q) b := Nat.not_le.mpr hbl
  refine lv_aload_n hx hb d_LW_law_1428 rfl (lv_at hl 1 rfl) ?_
  refine lv_aload_n hx hb d_LW_law_1429 rfl (lv_at hl 0 rfl) ?_
  refine lv_iload hx hb d_LW_law_1430 (lv_at hl 4 rfl) ?_
  refine lv_iconst (v := nI 1) hx hb d_LW_law_1432 (by decide) ?_
  refine lv_iadd hx hb d_LW_law_1433 ?_
  refine va_sld hx hb hX hbl hbA hS (lw_ix (j := 1) (by omega) hL ex).1 d_LW_law_1434 ?_
  refine W.eq (g2 := F0 m 1435 ls [.int (xs (i + 1)), .ref (ad 0)]) (by rw [(lw_ix (j := 1) (show i + 1 < L by omega) hL ex).2]) ?_
  refine lv_aload_n hx hb d_LW_law_1435 rfl (lv_at hl 3 rfl) ?_
  refine lw_help (n := 3) (As := [.ref (ad 0), .int (xs (i + 1)), .ref aO]) (rest := []) ⟨hx, hb, hml.trans hl.1.symm, hown, hts⟩ hD hE (c_LW_count l hfl s.heap.size G ad cI cZ cJ aO hD.1 σ y (xs (i + 1)) (k, y', σ') g1) rfl rfl ⟨Nat.le_of_ble_eq_true rfl, Nat.le_of_ble_eq_true rfl⟩ w_588 w_0 w_586 w_587 (by decide +kernel) hP hS rfl (Nat.le_of_ble_eq_true rfl) d_LW_law_1436 ⟨hc, hs⟩ (fun H locs hP hS => ?_)
  have hP : va_P G clX (wL ad cI cZ cJ aO am σ' y' τ) H := hP
  refine lv_istore (lv' := [(5, .int k), (0, .ref b), (1, .ref (ad 0)), (2, .ref (am 0)), (3, .ref aO), (4, .int x4)]) hx hb d_LW_law_1439 hl (by decide) rfl (fun ls hl => ?_)
  refine lv_aload_n hx hb d_LW_law_1441 rfl (lv_at hl 3 rfl) ?_
  refine lv_aload_n hx hb d_LW_law_1442 rfl (lv_at hl 1 rfl) ?_
  refine lv_iload hx hb d_LW_law_1443 (lv_at hl 5 rfl) ?_
  refine lv_iconst (v := nI 1) hx hb d_LW_law_1445 (by decide) ?_
  refine lv_iadd hx hb d_LW_law_1446 ?_
  refine va_sld hx hb hX hbl hbA hS (lw_ix (j := 1) (by omega) hL ex).1 d_LW_law_1447 ?_
  refine W.eq (g2 := F0 m 1448 ls [.int (xs (i + 1)), .ref (am 0)]) (by rw [(lw_ix (j := 1) (show i + 1 < L by omega) hL ex).2]) ?_
  refine lw_model (As := [.int (xs (i + 1))]) (rest := []) ⟨hx, hb, hml.trans hl.1.symm, hown, hts⟩ hD hE (c_MD_count l G am cI cZ hD.2.1 τ (xs (i + 1)) (b9, τ') g2) (cwV 1 hts (wg_V w_852 w_853 w_854 w_8 w_855) rfl rfl rfl (by decide +kernel) ⟨Nat.le_of_ble_eq_true rfl, Nat.le_of_ble_eq_true rfl⟩) hP hS rfl (Nat.le_of_ble_eq_true rfl) d_LW_law_1448 ⟨hc, hs⟩ (fun H locs hP hS => ?_)
  have hP : va_P G clX (wL ad cI cZ cJ aO am σ' y' τ') H := hP
  refine lv_istore (lv' := [(6, .int b9), (5, .int k), (0, .ref b), (1, .ref (ad 0)), (2, .ref (am 0)), (3, .ref aO), (4, .int x4)]) hx hb d_LW_law_1451 hl (by decide) rfl (fun ls hl => ?_)
  refine lv_aload_n hx hb d_LW_law_1453 rfl (lv_at hl 4 rfl) ?_
  refine lw_thrown (As := []) (rest := []) ⟨hx, hb, hml.trans hl.1.symm, hown, hts⟩ hE (c_MD_thrown l G am cI cZ τ' k g3) (cwV 0 hts (wg_V w_697 w_698 w_699 w_8 w_700) rfl rfl rfl (by decide +kernel) ⟨Nat.le_of_ble_eq_true rfl, Nat.le_of_ble_eq_true rfl⟩) hP rfl (Nat.le_of_ble_eq_true rfl) d_LW_law_1454 ⟨hc, hs⟩ ?_
  refine lv_iload hx hb d_LW_law_1457 (lv_at hl 1 rfl) ?_
  refine lv_icmp_eq (tgt := 1464) hx hb d_LW_law_1459 (by decide) (fun _ => ?_) (fun c8 => absurd rfl c8)
  refine lv_iload hx hb d_LW_law_1464 (lv_at hl 1 rfl) ?_
  refine lv_if_ne (tgt := 1481) hx hb d_LW_law_1466 (by decide) (fun _ => ?_) (fun c7 => ?_)
  · refine lv_goto (tgt := 1484) hx hb d_LW_law_1481 (by decide) ?_
    exact kk _ _ _ hP hS (lv_sub hl [2, 3, 4, 5, 6] rfl)
  · refine lv_aload_n hx hb d_LW_law_1469 rfl (lv_at hl 5 rfl) ?_
    refine lv_iconst (v := 0) hx hb d_LW_law_1470 (by decide) ?_
    refine va_lald (D := G) hx hb hE.2.2.1 (wL_h hP) 32 0 rfl rfl (inB_in (by decide)) d_LW_law_1471 ?_
    refine lv_iload hx hb d_LW_law_1472 (lv_at hl 0 rfl) ?_
    refine lv_i2l (v := Int32.toInt64 b9) hx hb d_LW_law_1474 rfl ?_
    refine W.lcmp hx hb d_LW_law_1475 ?_
    refine lv_if_eq (tgt := 1481) hx hb d_LW_law_1476 (by decide) (fun _ => ?_) (fun c5 => absurd (by rw [g4 c7]; exact lg_same _) c5)
    refine lv_goto (tgt := 1484) hx hb d_LW_law_1481 (by decide) ?_
    exact kk _ _ _ hP hS (lv_sub hl [2, 3, 4, 5, 6] rfl)
