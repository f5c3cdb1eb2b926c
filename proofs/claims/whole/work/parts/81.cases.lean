set_option maxHeartbeats 4000000 in
set_option maxRecDepth 100000 in
theorem lc_place {p : Program} {l : Launch} {e : Env} {s : State} {m : MethodId} {below : List Frame} {meth : Method} {c : Code} {b L : Nat} {xs : Nat → Int32} {G : va_G} {cI cZ cJ : ClassId} {ad : Nat → Nat} {aO : Nat} {am : Nat → Nat} (hfl : l.flags = pinnedFlags ++ [noTraceFlag]) (E : EL p s m meth c b L xs G cI cZ cJ ad aO am) {σ σ' τ τ' : Sg} {y y' : Nat → Int64} {i : Nat} {x4 : Int32} (ex : x4 = nI i) (hi : i + 6 ≤ L) {k b9 : Int32} (g1 : h_place σ y (xs (i + 1)) (xs (i + 2)) = some (k, y', σ')) (g2 : f_MD_place τ (xs (i + 1)) (xs (i + 2)) = some (b9, τ')) (g3 : f_MD_thrown τ' = some k) (g4 : k = 0 → y' (Int32.toNatClampNeg 0) = Int32.toInt64 b9) {H : Heap} {locs : List Loc} {cells slots : Nat} {ls : Array Slot} (hP : va_P G clX (wL ad cI cZ cJ aO am σ y τ) H) (hS : va_S (fun q : Nat => s.heap.size ≤ q) s.heap H locs) (hc : cells + 1 ≤ 1088) (hs : slots + 6 ≤ 14225) (hl : lv_has ls 7 [(0, .ref b), (1, .ref (ad 0)), (2, .ref (am 0)), (3, .ref aO), (4, .int x4)]) (kk : ∀ (H1 : Heap) (locs1 : List Loc) (ls1 : Array Slot), va_P G clX (wL ad cI cZ cJ aO am σ' y' τ') H1 → va_S (fun q : Nat => s.heap.size ≤ q) s.heap H1 locs1 → lv_has ls1 7 [(0, .ref b), (1, .ref (ad 0)), (2, .ref (am 0)), (3, .ref aO), (4, .int x4)] → W p l e room_1 s m #[Value.ref b] below meth c H1 locs1 (cells + 1) (slots + 6) (lw_Z below #[Value.ref b] s) (F0 m 1484 ls1 [])) : W p l e room_1 s m #[Value.ref b] below meth c H locs cells slots (lw_Z below #[Value.ref b] s) (F0 m 128 ls []) := by
  obtain ⟨hx, hb, hr, hml, hown, hts, hX, hbl, hlocks, hL, hE, hD⟩ := E
  have hbA : ¬ (fun q : Nat => s.heap.size ≤ q) b := Nat.not_le.mpr hbl
  refine lv_aload_n hx hb d_LW_law_128 rfl (lv_at hl 1 rfl) ?_
  refine lv_aload_n hx hb d_LW_law_129 rfl (lv_at hl 0 rfl) ?_
  refine lv_iload hx hb d_LW_law_130 (lv_at hl 4 rfl) ?_
  refine lv_iconst (v := nI 1) hx hb d_LW_law_132 (by decide) ?_
  refine lv_iadd hx hb d_LW_law_133 ?_
  refine va_sld hx hb hX hbl hbA hS (lw_ix (j := 1) (by omega) hL ex).1 d_LW_law_134 ?_
  refine W.eq (g2 := F0 m 135 ls [.int (xs (i + 1)), .ref (ad 0)]) (by rw [(lw_ix (j := 1) (show i + 1 < L by omega) hL ex).2]) ?_
  refine lv_aload_n hx hb d_LW_law_135 rfl (lv_at hl 0 rfl) ?_
  refine lv_iload hx hb d_LW_law_136 (lv_at hl 4 rfl) ?_
  refine lv_iconst (v := nI 2) hx hb d_LW_law_138 (by decide) ?_
  refine lv_iadd hx hb d_LW_law_139 ?_
  refine va_sld hx hb hX hbl hbA hS (lw_ix (j := 2) (by omega) hL ex).1 d_LW_law_140 ?_
  refine W.eq (g2 := F0 m 141 ls [.int (xs (i + 2)), .int (xs (i + 1)), .ref (ad 0)]) (by rw [(lw_ix (j := 2) (show i + 2 < L by omega) hL ex).2]) ?_
  refine lv_aload_n hx hb d_LW_law_141 rfl (lv_at hl 3 rfl) ?_
  refine lw_help (n := 4) (As := [.ref (ad 0), .int (xs (i + 1)), .int (xs (i + 2)), .ref aO]) (rest := []) ⟨hx, hb, hml.trans hl.1.symm, hown, hts⟩ hD hE (c_LW_place l hfl s.heap.size G ad cI cZ cJ aO hD.1 σ y (xs (i + 1)) (xs (i + 2)) (k, y', σ') g1) rfl rfl ⟨Nat.le_of_ble_eq_true rfl, Nat.le_of_ble_eq_true rfl⟩ w_206 w_0 w_204 w_205 (by decide +kernel) hP hS rfl (Nat.le_of_ble_eq_true rfl) d_LW_law_142 ⟨hc, hs⟩ (fun H locs hP hS => ?_)
  have hP : va_P G clX (wL ad cI cZ cJ aO am σ' y' τ) H := hP
  refine lv_istore (lv' := [(5, .int k), (0, .ref b), (1, .ref (ad 0)), (2, .ref (am 0)), (3, .ref aO), (4, .int x4)]) hx hb d_LW_law_145 hl (by decide) rfl (fun ls hl => ?_)
  refine lv_aload_n hx hb d_LW_law_147 rfl (lv_at hl 3 rfl) ?_
  refine lv_aload_n hx hb d_LW_law_148 rfl (lv_at hl 1 rfl) ?_
  refine lv_iload hx hb d_LW_law_149 (lv_at hl 5 rfl) ?_
  refine lv_iconst (v := nI 1) hx hb d_LW_law_151 (by decide) ?_
  refine lv_iadd hx hb d_LW_law_152 ?_
  refine va_sld hx hb hX hbl hbA hS (lw_ix (j := 1) (by omega) hL ex).1 d_LW_law_153 ?_
  refine W.eq (g2 := F0 m 154 ls [.int (xs (i + 1)), .ref (am 0)]) (by rw [(lw_ix (j := 1) (show i + 1 < L by omega) hL ex).2]) ?_
  refine lv_aload_n hx hb d_LW_law_154 rfl (lv_at hl 1 rfl) ?_
  refine lv_iload hx hb d_LW_law_155 (lv_at hl 5 rfl) ?_
  refine lv_iconst (v := nI 2) hx hb d_LW_law_157 (by decide) ?_
  refine lv_iadd hx hb d_LW_law_158 ?_
  refine va_sld hx hb hX hbl hbA hS (lw_ix (j := 2) (by omega) hL ex).1 d_LW_law_159 ?_
  refine W.eq (g2 := F0 m 160 ls [.int (xs (i + 2)), .int (xs (i + 1)), .ref (am 0)]) (by rw [(lw_ix (j := 2) (show i + 2 < L by omega) hL ex).2]) ?_
  refine lw_model (As := [.int (xs (i + 1)), .int (xs (i + 2))]) (rest := []) ⟨hx, hb, hml.trans hl.1.symm, hown, hts⟩ hD hE (c_MD_place l G am cI cZ hD.2.1 τ (xs (i + 1)) (xs (i + 2)) (b9, τ') g2) (cwV 2 hts (wg_V w_701 w_702 w_703 w_8 w_704) rfl rfl rfl (by decide +kernel) ⟨Nat.le_of_ble_eq_true rfl, Nat.le_of_ble_eq_true rfl⟩) hP hS rfl (Nat.le_of_ble_eq_true rfl) d_LW_law_160 ⟨hc, hs⟩ (fun H locs hP hS => ?_)
  have hP : va_P G clX (wL ad cI cZ cJ aO am σ' y' τ') H := hP
  refine lv_istore (lv' := [(6, .int b9), (5, .int k), (0, .ref b), (1, .ref (ad 0)), (2, .ref (am 0)), (3, .ref aO), (4, .int x4)]) hx hb d_LW_law_163 hl (by decide) rfl (fun ls hl => ?_)
  refine lv_aload_n hx hb d_LW_law_165 rfl (lv_at hl 4 rfl) ?_
  refine lw_thrown (As := []) (rest := []) ⟨hx, hb, hml.trans hl.1.symm, hown, hts⟩ hE (c_MD_thrown l G am cI cZ τ' k g3) (cwV 0 hts (wg_V w_697 w_698 w_699 w_8 w_700) rfl rfl rfl (by decide +kernel) ⟨Nat.le_of_ble_eq_true rfl, Nat.le_of_ble_eq_true rfl⟩) hP rfl (Nat.le_of_ble_eq_true rfl) d_LW_law_166 ⟨hc, hs⟩ ?_
  refine lv_iload hx hb d_LW_law_169 (lv_at hl 1 rfl) ?_
  refine lv_icmp_eq (tgt := 176) hx hb d_LW_law_171 (by decide) (fun _ => ?_) (fun c8 => absurd rfl c8)
  refine lv_iload hx hb d_LW_law_176 (lv_at hl 1 rfl) ?_
  refine lv_if_ne (tgt := 193) hx hb d_LW_law_178 (by decide) (fun _ => ?_) (fun c7 => ?_)
  · refine lv_goto (tgt := 1484) hx hb d_LW_law_193 (by decide) ?_
    exact kk _ _ _ hP hS (lv_sub hl [2, 3, 4, 5, 6] rfl)
  · refine lv_aload_n hx hb d_LW_law_181 rfl (lv_at hl 5 rfl) ?_
    refine lv_iconst (v := 0) hx hb d_LW_law_182 (by decide) ?_
    refine va_lald (D := G) hx hb hE.2.2.1 (wL_h hP) 32 0 rfl rfl (inB_in (by decide)) d_LW_law_183 ?_
    refine lv_iload hx hb d_LW_law_184 (lv_at hl 0 rfl) ?_
    refine lv_i2l (v := Int32.toInt64 b9) hx hb d_LW_law_186 rfl ?_
    refine W.lcmp hx hb d_LW_law_187 ?_
    refine lv_if_eq (tgt := 193) hx hb d_LW_law_188 (by decide) (fun _ => ?_) (fun c5 => absurd (by rw [g4 c7]; exact lg_same _) c5)
    refine lv_goto (tgt := 1484) hx hb d_LW_law_193 (by decide) ?_
    exact kk _ _ _ hP hS (lv_sub hl [2, 3, 4, 5, 6] rfl)
set_option maxHeartbeats 4000000 in
set_option maxRecDepth 100000 in
theorem lc_object {p : Program} {l : Launch} {e : Env} {s : State} {m : MethodId} {below : List Frame} {meth : Method} {c : Code} {b L : Nat} {xs : Nat → Int32} {G : va_G} {cI cZ cJ : ClassId} {ad : Nat → Nat} {aO : Nat} {am : Nat → Nat} (hfl : l.flags = pinnedFlags ++ [noTraceFlag]) (E : EL p s m meth c b L xs G cI cZ cJ ad aO am) {σ σ' τ τ' : Sg} {y y' : Nat → Int64} {i : Nat} {x4 : Int32} (ex : x4 = nI i) (hi : i + 6 ≤ L) {k b9 : Int32} (g1 : h_object σ y (xs (i + 1)) (xs (i + 2)) (xs (i + 3)) (xs (i + 4)) = some (k, y', σ')) (g2 : f_MD_object τ (xs (i + 1)) (xs (i + 2)) (xs (i + 3)) (xs (i + 4)) = some (b9, τ')) (g3 : f_MD_thrown τ' = some k) (g4 : k = 0 → y' (Int32.toNatClampNeg 0) = Int32.toInt64 b9) {H : Heap} {locs : List Loc} {cells slots : Nat} {ls : Array Slot} (hP : va_P G clX (wL ad cI cZ cJ aO am σ y τ) H) (hS : va_S (fun q : Nat => s.heap.size ≤ q) s.heap H locs) (hc : cells + 1 ≤ 1088) (hs : slots + 6 ≤ 14225) (hl : lv_has ls 7 [(0, .ref b), (1, .ref (ad 0)), (2, .ref (am 0)), (3, .ref aO), (4, .int x4)]) (kk : ∀ (H1 : Heap) (locs1 : List Loc) (ls1 : Array Slot), va_P G clX (wL ad cI cZ cJ aO am σ' y' τ') H1 → va_S (fun q : Nat => s.heap.size ≤ q) s.heap H1 locs1 → lv_has ls1 7 [(0, .ref b), (1, .ref (ad 0)), (2, .ref (am 0)), (3, .ref aO), (4, .int x4)] → W p l e room_1 s m #[Value.ref b] below meth c H1 locs1 (cells + 1) (slots + 6) (lw_Z below #[Value.ref b] s) (F0 m 1484 ls1 [])) : W p l e room_1 s m #[Value.ref b] below meth c H locs cells slots (lw_Z below #[Value.ref b] s) (F0 m 196 ls []) := by
  obtain ⟨hx, hb, hr, hml, hown, hts, hX, hbl, hlocks, hL, hE, hD⟩ := E
  have hbA : ¬ (fun q : Nat => s.heap.size ≤ q) b := Nat.not_le.mpr hbl
  refine lv_aload_n hx hb d_LW_law_196 rfl (lv_at hl 1 rfl) ?_
  refine lv_aload_n hx hb d_LW_law_197 rfl (lv_at hl 0 rfl) ?_
  refine lv_iload hx hb d_LW_law_198 (lv_at hl 4 rfl) ?_
  refine lv_iconst (v := nI 1) hx hb d_LW_law_200 (by decide) ?_
  refine lv_iadd hx hb d_LW_law_201 ?_
  refine va_sld hx hb hX hbl hbA hS (lw_ix (j := 1) (by omega) hL ex).1 d_LW_law_202 ?_
  refine W.eq (g2 := F0 m 203 ls [.int (xs (i + 1)), .ref (ad 0)]) (by rw [(lw_ix (j := 1) (show i + 1 < L by omega) hL ex).2]) ?_
  refine lv_aload_n hx hb d_LW_law_203 rfl (lv_at hl 0 rfl) ?_
  refine lv_iload hx hb d_LW_law_204 (lv_at hl 4 rfl) ?_
  refine lv_iconst (v := nI 2) hx hb d_LW_law_206 (by decide) ?_
  refine lv_iadd hx hb d_LW_law_207 ?_
  refine va_sld hx hb hX hbl hbA hS (lw_ix (j := 2) (by omega) hL ex).1 d_LW_law_208 ?_
  refine W.eq (g2 := F0 m 209 ls [.int (xs (i + 2)), .int (xs (i + 1)), .ref (ad 0)]) (by rw [(lw_ix (j := 2) (show i + 2 < L by omega) hL ex).2]) ?_
  refine lv_aload_n hx hb d_LW_law_209 rfl (lv_at hl 0 rfl) ?_
  refine lv_iload hx hb d_LW_law_210 (lv_at hl 4 rfl) ?_
  refine lv_iconst (v := nI 3) hx hb d_LW_law_212 (by decide) ?_
  refine lv_iadd hx hb d_LW_law_213 ?_
  refine va_sld hx hb hX hbl hbA hS (lw_ix (j := 3) (by omega) hL ex).1 d_LW_law_214 ?_
  refine W.eq (g2 := F0 m 215 ls [.int (xs (i + 3)), .int (xs (i + 2)), .int (xs (i + 1)), .ref (ad 0)]) (by rw [(lw_ix (j := 3) (show i + 3 < L by omega) hL ex).2]) ?_
  refine lv_aload_n hx hb d_LW_law_215 rfl (lv_at hl 0 rfl) ?_
  refine lv_iload hx hb d_LW_law_216 (lv_at hl 4 rfl) ?_
  refine lv_iconst (v := nI 4) hx hb d_LW_law_218 (by decide) ?_
  refine lv_iadd hx hb d_LW_law_219 ?_
  refine va_sld hx hb hX hbl hbA hS (lw_ix (j := 4) (by omega) hL ex).1 d_LW_law_220 ?_
  refine W.eq (g2 := F0 m 221 ls [.int (xs (i + 4)), .int (xs (i + 3)), .int (xs (i + 2)), .int (xs (i + 1)), .ref (ad 0)]) (by rw [(lw_ix (j := 4) (show i + 4 < L by omega) hL ex).2]) ?_
  refine lv_aload_n hx hb d_LW_law_221 rfl (lv_at hl 3 rfl) ?_
  refine lw_help (n := 6) (As := [.ref (ad 0), .int (xs (i + 1)), .int (xs (i + 2)), .int (xs (i + 3)), .int (xs (i + 4)), .ref aO]) (rest := []) ⟨hx, hb, hml.trans hl.1.symm, hown, hts⟩ hD hE (c_LW_object l hfl s.heap.size G ad cI cZ cJ aO hD.1 σ y (xs (i + 1)) (xs (i + 2)) (xs (i + 3)) (xs (i + 4)) (k, y', σ') g1) rfl rfl ⟨Nat.le_of_ble_eq_true rfl, Nat.le_of_ble_eq_true rfl⟩ w_338 w_0 w_336 w_337 (by decide +kernel) hP hS rfl (Nat.le_of_ble_eq_true rfl) d_LW_law_222 ⟨hc, hs⟩ (fun H locs hP hS => ?_)
  have hP : va_P G clX (wL ad cI cZ cJ aO am σ' y' τ) H := hP
  refine lv_istore (lv' := [(5, .int k), (0, .ref b), (1, .ref (ad 0)), (2, .ref (am 0)), (3, .ref aO), (4, .int x4)]) hx hb d_LW_law_225 hl (by decide) rfl (fun ls hl => ?_)
  refine lv_aload_n hx hb d_LW_law_227 rfl (lv_at hl 3 rfl) ?_
  refine lv_aload_n hx hb d_LW_law_228 rfl (lv_at hl 1 rfl) ?_
  refine lv_iload hx hb d_LW_law_229 (lv_at hl 5 rfl) ?_
  refine lv_iconst (v := nI 1) hx hb d_LW_law_231 (by decide) ?_
  refine lv_iadd hx hb d_LW_law_232 ?_
  refine va_sld hx hb hX hbl hbA hS (lw_ix (j := 1) (by omega) hL ex).1 d_LW_law_233 ?_
  refine W.eq (g2 := F0 m 234 ls [.int (xs (i + 1)), .ref (am 0)]) (by rw [(lw_ix (j := 1) (show i + 1 < L by omega) hL ex).2]) ?_
  refine lv_aload_n hx hb d_LW_law_234 rfl (lv_at hl 1 rfl) ?_
  refine lv_iload hx hb d_LW_law_235 (lv_at hl 5 rfl) ?_
  refine lv_iconst (v := nI 2) hx hb d_LW_law_237 (by decide) ?_
  refine lv_iadd hx hb d_LW_law_238 ?_
  refine va_sld hx hb hX hbl hbA hS (lw_ix (j := 2) (by omega) hL ex).1 d_LW_law_239 ?_
  refine W.eq (g2 := F0 m 240 ls [.int (xs (i + 2)), .int (xs (i + 1)), .ref (am 0)]) (by rw [(lw_ix (j := 2) (show i + 2 < L by omega) hL ex).2]) ?_
  refine lv_aload_n hx hb d_LW_law_240 rfl (lv_at hl 1 rfl) ?_
  refine lv_iload hx hb d_LW_law_241 (lv_at hl 5 rfl) ?_
  refine lv_iconst (v := nI 3) hx hb d_LW_law_243 (by decide) ?_
  refine lv_iadd hx hb d_LW_law_244 ?_
  refine va_sld hx hb hX hbl hbA hS (lw_ix (j := 3) (by omega) hL ex).1 d_LW_law_245 ?_
  refine W.eq (g2 := F0 m 246 ls [.int (xs (i + 3)), .int (xs (i + 2)), .int (xs (i + 1)), .ref (am 0)]) (by rw [(lw_ix (j := 3) (show i + 3 < L by omega) hL ex).2]) ?_
  refine lv_aload_n hx hb d_LW_law_246 rfl (lv_at hl 1 rfl) ?_
  refine lv_iload hx hb d_LW_law_247 (lv_at hl 5 rfl) ?_
  refine lv_iconst (v := nI 4) hx hb d_LW_law_249 (by decide) ?_
  refine lv_iadd hx hb d_LW_law_250 ?_
  refine va_sld hx hb hX hbl hbA hS (lw_ix (j := 4) (by omega) hL ex).1 d_LW_law_251 ?_
  refine W.eq (g2 := F0 m 252 ls [.int (xs (i + 4)), .int (xs (i + 3)), .int (xs (i + 2)), .int (xs (i + 1)), .ref (am 0)]) (by rw [(lw_ix (j := 4) (show i + 4 < L by omega) hL ex).2]) ?_
  refine lw_model (As := [.int (xs (i + 1)), .int (xs (i + 2)), .int (xs (i + 3)), .int (xs (i + 4))]) (rest := []) ⟨hx, hb, hml.trans hl.1.symm, hown, hts⟩ hD hE (c_MD_object l G am cI cZ hD.2.1 τ (xs (i + 1)) (xs (i + 2)) (xs (i + 3)) (xs (i + 4)) (b9, τ') g2) (cwV 4 hts (wg_V w_717 w_718 w_719 w_8 w_720) rfl rfl rfl (by decide +kernel) ⟨Nat.le_of_ble_eq_true rfl, Nat.le_of_ble_eq_true rfl⟩) hP hS rfl (Nat.le_of_ble_eq_true rfl) d_LW_law_252 ⟨hc, hs⟩ (fun H locs hP hS => ?_)
  have hP : va_P G clX (wL ad cI cZ cJ aO am σ' y' τ') H := hP
  refine lv_istore (lv' := [(6, .int b9), (5, .int k), (0, .ref b), (1, .ref (ad 0)), (2, .ref (am 0)), (3, .ref aO), (4, .int x4)]) hx hb d_LW_law_255 hl (by decide) rfl (fun ls hl => ?_)
  refine lv_aload_n hx hb d_LW_law_257 rfl (lv_at hl 4 rfl) ?_
  refine lw_thrown (As := []) (rest := []) ⟨hx, hb, hml.trans hl.1.symm, hown, hts⟩ hE (c_MD_thrown l G am cI cZ τ' k g3) (cwV 0 hts (wg_V w_697 w_698 w_699 w_8 w_700) rfl rfl rfl (by decide +kernel) ⟨Nat.le_of_ble_eq_true rfl, Nat.le_of_ble_eq_true rfl⟩) hP rfl (Nat.le_of_ble_eq_true rfl) d_LW_law_258 ⟨hc, hs⟩ ?_
  refine lv_iload hx hb d_LW_law_261 (lv_at hl 1 rfl) ?_
  refine lv_icmp_eq (tgt := 268) hx hb d_LW_law_263 (by decide) (fun _ => ?_) (fun c8 => absurd rfl c8)
  refine lv_iload hx hb d_LW_law_268 (lv_at hl 1 rfl) ?_
  refine lv_if_ne (tgt := 285) hx hb d_LW_law_270 (by decide) (fun _ => ?_) (fun c7 => ?_)
  · refine lv_goto (tgt := 1484) hx hb d_LW_law_285 (by decide) ?_
    exact kk _ _ _ hP hS (lv_sub hl [2, 3, 4, 5, 6] rfl)
  · refine lv_aload_n hx hb d_LW_law_273 rfl (lv_at hl 5 rfl) ?_
    refine lv_iconst (v := 0) hx hb d_LW_law_274 (by decide) ?_
    refine va_lald (D := G) hx hb hE.2.2.1 (wL_h hP) 32 0 rfl rfl (inB_in (by decide)) d_LW_law_275 ?_
    refine lv_iload hx hb d_LW_law_276 (lv_at hl 0 rfl) ?_
    refine lv_i2l (v := Int32.toInt64 b9) hx hb d_LW_law_278 rfl ?_
    refine W.lcmp hx hb d_LW_law_279 ?_
    refine lv_if_eq (tgt := 285) hx hb d_LW_law_280 (by decide) (fun _ => ?_) (fun c5 => absurd (by rw [g4 c7]; exact lg_same _) c5)
    refine lv_goto (tgt := 1484) hx hb d_LW_law_285 (by decide) ?_
    exact kk _ _ _ hP hS (lv_sub hl [2, 3, 4, 5, 6] rfl)
set_option maxHeartbeats 4000000 in
set_option maxRecDepth 100000 in
theorem lc_keys {p : Program} {l : Launch} {e : Env} {s : State} {m : MethodId} {below : List Frame} {meth : Method} {c : Code} {b L : Nat} {xs : Nat → Int32} {G : va_G} {cI cZ cJ : ClassId} {ad : Nat → Nat} {aO : Nat} {am : Nat → Nat} (hfl : l.flags = pinnedFlags ++ [noTraceFlag]) (E : EL p s m meth c b L xs G cI cZ cJ ad aO am) {σ σ' τ τ' : Sg} {y y' : Nat → Int64} {i : Nat} {x4 : Int32} (ex : x4 = nI i) (hi : i + 6 ≤ L) {k b9 : Int32} (g1 : h_keys σ y (xs (i + 1)) (xs (i + 2)) = some (k, y', σ')) (g2 : f_MD_keys τ (xs (i + 1)) (xs (i + 2)) = some (b9, τ')) (g3 : f_MD_thrown τ' = some k) (g4 : k = 0 → y' (Int32.toNatClampNeg 0) = Int32.toInt64 b9) {H : Heap} {locs : List Loc} {cells slots : Nat} {ls : Array Slot} (hP : va_P G clX (wL ad cI cZ cJ aO am σ y τ) H) (hS : va_S (fun q : Nat => s.heap.size ≤ q) s.heap H locs) (hc : cells + 1 ≤ 1088) (hs : slots + 6 ≤ 14225) (hl : lv_has ls 7 [(0, .ref b), (1, .ref (ad 0)), (2, .ref (am 0)), (3, .ref aO), (4, .int x4)]) (kk : ∀ (H1 : Heap) (locs1 : List Loc) (ls1 : Array Slot), va_P G clX (wL ad cI cZ cJ aO am σ' y' τ') H1 → va_S (fun q : Nat => s.heap.size ≤ q) s.heap H1 locs1 → lv_has ls1 7 [(0, .ref b), (1, .ref (ad 0)), (2, .ref (am 0)), (3, .ref aO), (4, .int x4)] → W p l e room_1 s m #[Value.ref b] below meth c H1 locs1 (cells + 1) (slots + 6) (lw_Z below #[Value.ref b] s) (F0 m 1484 ls1 [])) : W p l e room_1 s m #[Value.ref b] below meth c H locs cells slots (lw_Z below #[Value.ref b] s) (F0 m 288 ls []) := by
  obtain ⟨hx, hb, hr, hml, hown, hts, hX, hbl, hlocks, hL, hE, hD⟩ := E
  have hbA : ¬ (fun q : Nat => s.heap.size ≤ q) b := Nat.not_le.mpr hbl
  refine lv_aload_n hx hb d_LW_law_288 rfl (lv_at hl 1 rfl) ?_
  refine lv_aload_n hx hb d_LW_law_289 rfl (lv_at hl 0 rfl) ?_
  refine lv_iload hx hb d_LW_law_290 (lv_at hl 4 rfl) ?_
  refine lv_iconst (v := nI 1) hx hb d_LW_law_292 (by decide) ?_
  refine lv_iadd hx hb d_LW_law_293 ?_
  refine va_sld hx hb hX hbl hbA hS (lw_ix (j := 1) (by omega) hL ex).1 d_LW_law_294 ?_
  refine W.eq (g2 := F0 m 295 ls [.int (xs (i + 1)), .ref (ad 0)]) (by rw [(lw_ix (j := 1) (show i + 1 < L by omega) hL ex).2]) ?_
  refine lv_aload_n hx hb d_LW_law_295 rfl (lv_at hl 0 rfl) ?_
  refine lv_iload hx hb d_LW_law_296 (lv_at hl 4 rfl) ?_
  refine lv_iconst (v := nI 2) hx hb d_LW_law_298 (by decide) ?_
  refine lv_iadd hx hb d_LW_law_299 ?_
  refine va_sld hx hb hX hbl hbA hS (lw_ix (j := 2) (by omega) hL ex).1 d_LW_law_300 ?_
  refine W.eq (g2 := F0 m 301 ls [.int (xs (i + 2)), .int (xs (i + 1)), .ref (ad 0)]) (by rw [(lw_ix (j := 2) (show i + 2 < L by omega) hL ex).2]) ?_
  refine lv_aload_n hx hb d_LW_law_301 rfl (lv_at hl 3 rfl) ?_
  refine lw_help (n := 4) (As := [.ref (ad 0), .int (xs (i + 1)), .int (xs (i + 2)), .ref aO]) (rest := []) ⟨hx, hb, hml.trans hl.1.symm, hown, hts⟩ hD hE (c_LW_keys l hfl s.heap.size G ad cI cZ cJ aO hD.1 σ y (xs (i + 1)) (xs (i + 2)) (k, y', σ') g1) rfl rfl ⟨Nat.le_of_ble_eq_true rfl, Nat.le_of_ble_eq_true rfl⟩ w_356 w_0 w_354 w_355 (by decide +kernel) hP hS rfl (Nat.le_of_ble_eq_true rfl) d_LW_law_302 ⟨hc, hs⟩ (fun H locs hP hS => ?_)
  have hP : va_P G clX (wL ad cI cZ cJ aO am σ' y' τ) H := hP
  refine lv_istore (lv' := [(5, .int k), (0, .ref b), (1, .ref (ad 0)), (2, .ref (am 0)), (3, .ref aO), (4, .int x4)]) hx hb d_LW_law_305 hl (by decide) rfl (fun ls hl => ?_)
  refine lv_aload_n hx hb d_LW_law_307 rfl (lv_at hl 3 rfl) ?_
  refine lv_aload_n hx hb d_LW_law_308 rfl (lv_at hl 1 rfl) ?_
  refine lv_iload hx hb d_LW_law_309 (lv_at hl 5 rfl) ?_
  refine lv_iconst (v := nI 1) hx hb d_LW_law_311 (by decide) ?_
  refine lv_iadd hx hb d_LW_law_312 ?_
  refine va_sld hx hb hX hbl hbA hS (lw_ix (j := 1) (by omega) hL ex).1 d_LW_law_313 ?_
  refine W.eq (g2 := F0 m 314 ls [.int (xs (i + 1)), .ref (am 0)]) (by rw [(lw_ix (j := 1) (show i + 1 < L by omega) hL ex).2]) ?_
  refine lv_aload_n hx hb d_LW_law_314 rfl (lv_at hl 1 rfl) ?_
  refine lv_iload hx hb d_LW_law_315 (lv_at hl 5 rfl) ?_
  refine lv_iconst (v := nI 2) hx hb d_LW_law_317 (by decide) ?_
  refine lv_iadd hx hb d_LW_law_318 ?_
  refine va_sld hx hb hX hbl hbA hS (lw_ix (j := 2) (by omega) hL ex).1 d_LW_law_319 ?_
  refine W.eq (g2 := F0 m 320 ls [.int (xs (i + 2)), .int (xs (i + 1)), .ref (am 0)]) (by rw [(lw_ix (j := 2) (show i + 2 < L by omega) hL ex).2]) ?_
  refine lw_model (As := [.int (xs (i + 1)), .int (xs (i + 2))]) (rest := []) ⟨hx, hb, hml.trans hl.1.symm, hown, hts⟩ hD hE (c_MD_keys l G am cI cZ hD.2.1 τ (xs (i + 1)) (xs (i + 2)) (b9, τ') g2) (cwV 2 hts (wg_V w_725 w_726 w_727 w_8 w_728) rfl rfl rfl (by decide +kernel) ⟨Nat.le_of_ble_eq_true rfl, Nat.le_of_ble_eq_true rfl⟩) hP hS rfl (Nat.le_of_ble_eq_true rfl) d_LW_law_320 ⟨hc, hs⟩ (fun H locs hP hS => ?_)
  have hP : va_P G clX (wL ad cI cZ cJ aO am σ' y' τ') H := hP
  refine lv_istore (lv' := [(6, .int b9), (5, .int k), (0, .ref b), (1, .ref (ad 0)), (2, .ref (am 0)), (3, .ref aO), (4, .int x4)]) hx hb d_LW_law_323 hl (by decide) rfl (fun ls hl => ?_)
  refine lv_aload_n hx hb d_LW_law_325 rfl (lv_at hl 4 rfl) ?_
  refine lw_thrown (As := []) (rest := []) ⟨hx, hb, hml.trans hl.1.symm, hown, hts⟩ hE (c_MD_thrown l G am cI cZ τ' k g3) (cwV 0 hts (wg_V w_697 w_698 w_699 w_8 w_700) rfl rfl rfl (by decide +kernel) ⟨Nat.le_of_ble_eq_true rfl, Nat.le_of_ble_eq_true rfl⟩) hP rfl (Nat.le_of_ble_eq_true rfl) d_LW_law_326 ⟨hc, hs⟩ ?_
  refine lv_iload hx hb d_LW_law_329 (lv_at hl 1 rfl) ?_
  refine lv_icmp_eq (tgt := 336) hx hb d_LW_law_331 (by decide) (fun _ => ?_) (fun c8 => absurd rfl c8)
  refine lv_iload hx hb d_LW_law_336 (lv_at hl 1 rfl) ?_
  refine lv_if_ne (tgt := 353) hx hb d_LW_law_338 (by decide) (fun _ => ?_) (fun c7 => ?_)
  · refine lv_goto (tgt := 1484) hx hb d_LW_law_353 (by decide) ?_
    exact kk _ _ _ hP hS (lv_sub hl [2, 3, 4, 5, 6] rfl)
  · refine lv_aload_n hx hb d_LW_law_341 rfl (lv_at hl 5 rfl) ?_
    refine lv_iconst (v := 0) hx hb d_LW_law_342 (by decide) ?_
    refine va_lald (D := G) hx hb hE.2.2.1 (wL_h hP) 32 0 rfl rfl (inB_in (by decide)) d_LW_law_343 ?_
    refine lv_iload hx hb d_LW_law_344 (lv_at hl 0 rfl) ?_
    refine lv_i2l (v := Int32.toInt64 b9) hx hb d_LW_law_346 rfl ?_
    refine W.lcmp hx hb d_LW_law_347 ?_
    refine lv_if_eq (tgt := 353) hx hb d_LW_law_348 (by decide) (fun _ => ?_) (fun c5 => absurd (by rw [g4 c7]; exact lg_same _) c5)
    refine lv_goto (tgt := 1484) hx hb d_LW_law_353 (by decide) ?_
    exact kk _ _ _ hP hS (lv_sub hl [2, 3, 4, 5, 6] rfl)
set_option maxHeartbeats 4000000 in
set_option maxRecDepth 100000 in
theorem lc_key {p : Program} {l : Launch} {e : Env} {s : State} {m : MethodId} {below : List Frame} {meth : Method} {c : Code} {b L : Nat} {xs : Nat → Int32} {G : va_G} {cI cZ cJ : ClassId} {ad : Nat → Nat} {aO : Nat} {am : Nat → Nat} (hfl : l.flags = pinnedFlags ++ [noTraceFlag]) (E : EL p s m meth c b L xs G cI cZ cJ ad aO am) {σ σ' τ τ' : Sg} {y y' : Nat → Int64} {i : Nat} {x4 : Int32} (ex : x4 = nI i) (hi : i + 6 ≤ L) {k b9 bv : Int32} (g1 : h_key σ y (xs (i + 1)) bv = some (k, y', σ')) (g2 : f_MD_key τ (xs (i + 1)) bv = some (b9, τ')) (g3 : f_MD_thrown τ' = some k) (g4 : k = 0 → y' (Int32.toNatClampNeg 0) = if b9 = 0 then 0 else 1) (hbv : bv = if xs (i + 2) = 0 then 0 else 1) {H : Heap} {locs : List Loc} {cells slots : Nat} {ls : Array Slot} (hP : va_P G clX (wL ad cI cZ cJ aO am σ y τ) H) (hS : va_S (fun q : Nat => s.heap.size ≤ q) s.heap H locs) (hc : cells + 1 ≤ 1088) (hs : slots + 6 ≤ 14225) (hl : lv_has ls 7 [(0, .ref b), (1, .ref (ad 0)), (2, .ref (am 0)), (3, .ref aO), (4, .int x4)]) (kk : ∀ (H1 : Heap) (locs1 : List Loc) (ls1 : Array Slot), va_P G clX (wL ad cI cZ cJ aO am σ' y' τ') H1 → va_S (fun q : Nat => s.heap.size ≤ q) s.heap H1 locs1 → lv_has ls1 7 [(0, .ref b), (1, .ref (ad 0)), (2, .ref (am 0)), (3, .ref aO), (4, .int x4)] → W p l e room_1 s m #[Value.ref b] below meth c H1 locs1 (cells + 1) (slots + 6) (lw_Z below #[Value.ref b] s) (F0 m 1484 ls1 [])) : W p l e room_1 s m #[Value.ref b] below meth c H locs cells slots (lw_Z below #[Value.ref b] s) (F0 m 356 ls []) := by
  obtain ⟨hx, hb, hr, hml, hown, hts, hX, hbl, hlocks, hL, hE, hD⟩ := E
  have hbA : ¬ (fun q : Nat => s.heap.size ≤ q) b := Nat.not_le.mpr hbl
  by_cases c9 : xs (i + 2) = 0
  · rw [if_pos c9] at hbv
    subst hbv
    refine lv_aload_n hx hb d_LW_law_356 rfl (lv_at hl 1 rfl) ?_
    refine lv_aload_n hx hb d_LW_law_357 rfl (lv_at hl 0 rfl) ?_
    refine lv_iload hx hb d_LW_law_358 (lv_at hl 4 rfl) ?_
    refine lv_iconst (v := nI 1) hx hb d_LW_law_360 (by decide) ?_
    refine lv_iadd hx hb d_LW_law_361 ?_
    refine va_sld hx hb hX hbl hbA hS (lw_ix (j := 1) (by omega) hL ex).1 d_LW_law_362 ?_
    refine W.eq (g2 := F0 m 363 ls [.int (xs (i + 1)), .ref (ad 0)]) (by rw [(lw_ix (j := 1) (show i + 1 < L by omega) hL ex).2]) ?_
    refine lv_aload_n hx hb d_LW_law_363 rfl (lv_at hl 0 rfl) ?_
    refine lv_iload hx hb d_LW_law_364 (lv_at hl 4 rfl) ?_
    refine lv_iconst (v := nI 2) hx hb d_LW_law_366 (by decide) ?_
    refine lv_iadd hx hb d_LW_law_367 ?_
    refine va_sld hx hb hX hbl hbA hS (lw_ix (j := 2) (by omega) hL ex).1 d_LW_law_368 ?_
    refine W.eq (g2 := F0 m 369 ls [.int (xs (i + 2)), .int (xs (i + 1)), .ref (ad 0)]) (by rw [(lw_ix (j := 2) (show i + 2 < L by omega) hL ex).2]) ?_
    refine lv_if_eq (tgt := 376) hx hb d_LW_law_369 (by decide) (fun c369 => ?_) (fun c369 => absurd c9 c369)
    refine lv_iconst (v := 0) hx hb d_LW_law_376 (by decide) ?_
    refine lv_aload_n hx hb d_LW_law_377 rfl (lv_at hl 3 rfl) ?_
    refine lw_help (n := 4) (As := [.ref (ad 0), .int (xs (i + 1)), .int 0, .ref aO]) (rest := []) ⟨hx, hb, hml.trans hl.1.symm, hown, hts⟩ hD hE (c_LW_key l hfl s.heap.size G ad cI cZ cJ aO hD.1 σ y (xs (i + 1)) 0 (k, y', σ') g1) rfl rfl ⟨Nat.le_of_ble_eq_true rfl, Nat.le_of_ble_eq_true rfl⟩ w_367 w_0 w_365 w_366 (by decide +kernel) hP hS rfl (Nat.le_of_ble_eq_true rfl) d_LW_law_378 ⟨hc, hs⟩ (fun H locs hP hS => ?_)
    have hP : va_P G clX (wL ad cI cZ cJ aO am σ' y' τ) H := hP
    refine lv_istore (lv' := [(5, .int k), (0, .ref b), (1, .ref (ad 0)), (2, .ref (am 0)), (3, .ref aO), (4, .int x4)]) hx hb d_LW_law_381 hl (by decide) rfl (fun ls hl => ?_)
    refine lv_aload_n hx hb d_LW_law_383 rfl (lv_at hl 3 rfl) ?_
    refine lv_aload_n hx hb d_LW_law_384 rfl (lv_at hl 1 rfl) ?_
    refine lv_iload hx hb d_LW_law_385 (lv_at hl 5 rfl) ?_
    refine lv_iconst (v := nI 1) hx hb d_LW_law_387 (by decide) ?_
    refine lv_iadd hx hb d_LW_law_388 ?_
    refine va_sld hx hb hX hbl hbA hS (lw_ix (j := 1) (by omega) hL ex).1 d_LW_law_389 ?_
    refine W.eq (g2 := F0 m 390 ls [.int (xs (i + 1)), .ref (am 0)]) (by rw [(lw_ix (j := 1) (show i + 1 < L by omega) hL ex).2]) ?_
    refine lv_aload_n hx hb d_LW_law_390 rfl (lv_at hl 1 rfl) ?_
    refine lv_iload hx hb d_LW_law_391 (lv_at hl 5 rfl) ?_
    refine lv_iconst (v := nI 2) hx hb d_LW_law_393 (by decide) ?_
    refine lv_iadd hx hb d_LW_law_394 ?_
    refine va_sld hx hb hX hbl hbA hS (lw_ix (j := 2) (by omega) hL ex).1 d_LW_law_395 ?_
    refine W.eq (g2 := F0 m 396 ls [.int (xs (i + 2)), .int (xs (i + 1)), .ref (am 0)]) (by rw [(lw_ix (j := 2) (show i + 2 < L by omega) hL ex).2]) ?_
    refine lv_if_eq (tgt := 403) hx hb d_LW_law_396 (by decide) (fun c396 => ?_) (fun c396 => absurd c9 c396)
    refine lv_iconst (v := 0) hx hb d_LW_law_403 (by decide) ?_
    refine lw_model (As := [.int (xs (i + 1)), .int 0]) (rest := []) ⟨hx, hb, hml.trans hl.1.symm, hown, hts⟩ hD hE (c_MD_key l G am cI cZ hD.2.1 τ (xs (i + 1)) 0 (b9, τ') g2) (cwV 2 hts (wg_V w_733 w_734 w_735 w_8 w_736) rfl rfl rfl (by decide +kernel) ⟨Nat.le_of_ble_eq_true rfl, Nat.le_of_ble_eq_true rfl⟩) hP hS rfl (Nat.le_of_ble_eq_true rfl) d_LW_law_404 ⟨hc, hs⟩ (fun H locs hP hS => ?_)
    have hP : va_P G clX (wL ad cI cZ cJ aO am σ' y' τ') H := hP
    refine lv_istore (lv' := [(6, .int b9), (5, .int k), (0, .ref b), (1, .ref (ad 0)), (2, .ref (am 0)), (3, .ref aO), (4, .int x4)]) hx hb d_LW_law_407 hl (by decide) rfl (fun ls hl => ?_)
    refine lv_aload_n hx hb d_LW_law_409 rfl (lv_at hl 4 rfl) ?_
    refine lw_thrown (As := []) (rest := []) ⟨hx, hb, hml.trans hl.1.symm, hown, hts⟩ hE (c_MD_thrown l G am cI cZ τ' k g3) (cwV 0 hts (wg_V w_697 w_698 w_699 w_8 w_700) rfl rfl rfl (by decide +kernel) ⟨Nat.le_of_ble_eq_true rfl, Nat.le_of_ble_eq_true rfl⟩) hP rfl (Nat.le_of_ble_eq_true rfl) d_LW_law_410 ⟨hc, hs⟩ ?_
    refine lv_iload hx hb d_LW_law_413 (lv_at hl 1 rfl) ?_
    refine lv_icmp_eq (tgt := 420) hx hb d_LW_law_415 (by decide) (fun _ => ?_) (fun c8 => absurd rfl c8)
    refine lv_iload hx hb d_LW_law_420 (lv_at hl 1 rfl) ?_
    refine lv_if_ne (tgt := 444) hx hb d_LW_law_422 (by decide) (fun _ => ?_) (fun c7 => ?_)
    · refine lv_goto (tgt := 1484) hx hb d_LW_law_444 (by decide) ?_
      exact kk _ _ _ hP hS (lv_sub hl [2, 3, 4, 5, 6] rfl)
    · refine lv_aload_n hx hb d_LW_law_425 rfl (lv_at hl 5 rfl) ?_
      refine lv_iconst (v := 0) hx hb d_LW_law_426 (by decide) ?_
      refine va_lald (D := G) hx hb hE.2.2.1 (wL_h hP) 32 0 rfl rfl (inB_in (by decide)) d_LW_law_427 ?_
      refine lv_iload hx hb d_LW_law_428 (lv_at hl 0 rfl) ?_
      refine lv_if_eq (tgt := 437) hx hb d_LW_law_430 (by decide) (fun c6 => ?_) (fun c6 => ?_)
      · refine lv_lconst (v := 0) hx hb d_LW_law_437 (by decide) ?_
        refine W.lcmp hx hb d_LW_law_438 ?_
        refine lv_if_eq (tgt := 444) hx hb d_LW_law_439 (by decide) (fun _ => ?_) (fun c5 => absurd (by rw [g4 c7, if_pos c6]; exact lg_same _) c5)
        refine lv_goto (tgt := 1484) hx hb d_LW_law_444 (by decide) ?_
        exact kk _ _ _ hP hS (lv_sub hl [2, 3, 4, 5, 6] rfl)
      · refine lv_lconst (v := 1) hx hb d_LW_law_433 (by decide) ?_
        refine lv_goto (tgt := 438) hx hb d_LW_law_434 (by decide) ?_
        refine W.lcmp hx hb d_LW_law_438 ?_
        refine lv_if_eq (tgt := 444) hx hb d_LW_law_439 (by decide) (fun _ => ?_) (fun c5 => absurd (by rw [g4 c7, if_neg c6]; exact lg_same _) c5)
        refine lv_goto (tgt := 1484) hx hb d_LW_law_444 (by decide) ?_
        exact kk _ _ _ hP hS (lv_sub hl [2, 3, 4, 5, 6] rfl)
  · rw [if_neg c9] at hbv
    subst hbv
    refine lv_aload_n hx hb d_LW_law_356 rfl (lv_at hl 1 rfl) ?_
    refine lv_aload_n hx hb d_LW_law_357 rfl (lv_at hl 0 rfl) ?_
    refine lv_iload hx hb d_LW_law_358 (lv_at hl 4 rfl) ?_
    refine lv_iconst (v := nI 1) hx hb d_LW_law_360 (by decide) ?_
    refine lv_iadd hx hb d_LW_law_361 ?_
    refine va_sld hx hb hX hbl hbA hS (lw_ix (j := 1) (by omega) hL ex).1 d_LW_law_362 ?_
    refine W.eq (g2 := F0 m 363 ls [.int (xs (i + 1)), .ref (ad 0)]) (by rw [(lw_ix (j := 1) (show i + 1 < L by omega) hL ex).2]) ?_
    refine lv_aload_n hx hb d_LW_law_363 rfl (lv_at hl 0 rfl) ?_
    refine lv_iload hx hb d_LW_law_364 (lv_at hl 4 rfl) ?_
    refine lv_iconst (v := nI 2) hx hb d_LW_law_366 (by decide) ?_
    refine lv_iadd hx hb d_LW_law_367 ?_
    refine va_sld hx hb hX hbl hbA hS (lw_ix (j := 2) (by omega) hL ex).1 d_LW_law_368 ?_
    refine W.eq (g2 := F0 m 369 ls [.int (xs (i + 2)), .int (xs (i + 1)), .ref (ad 0)]) (by rw [(lw_ix (j := 2) (show i + 2 < L by omega) hL ex).2]) ?_
    refine lv_if_eq (tgt := 376) hx hb d_LW_law_369 (by decide) (fun c369 => absurd c369 c9) (fun c369 => ?_)
    refine lv_iconst (v := 1) hx hb d_LW_law_372 (by decide) ?_
    refine lv_goto (tgt := 377) hx hb d_LW_law_373 (by decide) ?_
    refine lv_aload_n hx hb d_LW_law_377 rfl (lv_at hl 3 rfl) ?_
    refine lw_help (n := 4) (As := [.ref (ad 0), .int (xs (i + 1)), .int 1, .ref aO]) (rest := []) ⟨hx, hb, hml.trans hl.1.symm, hown, hts⟩ hD hE (c_LW_key l hfl s.heap.size G ad cI cZ cJ aO hD.1 σ y (xs (i + 1)) 1 (k, y', σ') g1) rfl rfl ⟨Nat.le_of_ble_eq_true rfl, Nat.le_of_ble_eq_true rfl⟩ w_367 w_0 w_365 w_366 (by decide +kernel) hP hS rfl (Nat.le_of_ble_eq_true rfl) d_LW_law_378 ⟨hc, hs⟩ (fun H locs hP hS => ?_)
    have hP : va_P G clX (wL ad cI cZ cJ aO am σ' y' τ) H := hP
    refine lv_istore (lv' := [(5, .int k), (0, .ref b), (1, .ref (ad 0)), (2, .ref (am 0)), (3, .ref aO), (4, .int x4)]) hx hb d_LW_law_381 hl (by decide) rfl (fun ls hl => ?_)
    refine lv_aload_n hx hb d_LW_law_383 rfl (lv_at hl 3 rfl) ?_
    refine lv_aload_n hx hb d_LW_law_384 rfl (lv_at hl 1 rfl) ?_
    refine lv_iload hx hb d_LW_law_385 (lv_at hl 5 rfl) ?_
    refine lv_iconst (v := nI 1) hx hb d_LW_law_387 (by decide) ?_
    refine lv_iadd hx hb d_LW_law_388 ?_
    refine va_sld hx hb hX hbl hbA hS (lw_ix (j := 1) (by omega) hL ex).1 d_LW_law_389 ?_
    refine W.eq (g2 := F0 m 390 ls [.int (xs (i + 1)), .ref (am 0)]) (by rw [(lw_ix (j := 1) (show i + 1 < L by omega) hL ex).2]) ?_
    refine lv_aload_n hx hb d_LW_law_390 rfl (lv_at hl 1 rfl) ?_
    refine lv_iload hx hb d_LW_law_391 (lv_at hl 5 rfl) ?_
    refine lv_iconst (v := nI 2) hx hb d_LW_law_393 (by decide) ?_
    refine lv_iadd hx hb d_LW_law_394 ?_
    refine va_sld hx hb hX hbl hbA hS (lw_ix (j := 2) (by omega) hL ex).1 d_LW_law_395 ?_
    refine W.eq (g2 := F0 m 396 ls [.int (xs (i + 2)), .int (xs (i + 1)), .ref (am 0)]) (by rw [(lw_ix (j := 2) (show i + 2 < L by omega) hL ex).2]) ?_
    refine lv_if_eq (tgt := 403) hx hb d_LW_law_396 (by decide) (fun c396 => absurd c396 c9) (fun c396 => ?_)
    refine lv_iconst (v := 1) hx hb d_LW_law_399 (by decide) ?_
    refine lv_goto (tgt := 404) hx hb d_LW_law_400 (by decide) ?_
    refine lw_model (As := [.int (xs (i + 1)), .int 1]) (rest := []) ⟨hx, hb, hml.trans hl.1.symm, hown, hts⟩ hD hE (c_MD_key l G am cI cZ hD.2.1 τ (xs (i + 1)) 1 (b9, τ') g2) (cwV 2 hts (wg_V w_733 w_734 w_735 w_8 w_736) rfl rfl rfl (by decide +kernel) ⟨Nat.le_of_ble_eq_true rfl, Nat.le_of_ble_eq_true rfl⟩) hP hS rfl (Nat.le_of_ble_eq_true rfl) d_LW_law_404 ⟨hc, hs⟩ (fun H locs hP hS => ?_)
    have hP : va_P G clX (wL ad cI cZ cJ aO am σ' y' τ') H := hP
    refine lv_istore (lv' := [(6, .int b9), (5, .int k), (0, .ref b), (1, .ref (ad 0)), (2, .ref (am 0)), (3, .ref aO), (4, .int x4)]) hx hb d_LW_law_407 hl (by decide) rfl (fun ls hl => ?_)
    refine lv_aload_n hx hb d_LW_law_409 rfl (lv_at hl 4 rfl) ?_
    refine lw_thrown (As := []) (rest := []) ⟨hx, hb, hml.trans hl.1.symm, hown, hts⟩ hE (c_MD_thrown l G am cI cZ τ' k g3) (cwV 0 hts (wg_V w_697 w_698 w_699 w_8 w_700) rfl rfl rfl (by decide +kernel) ⟨Nat.le_of_ble_eq_true rfl, Nat.le_of_ble_eq_true rfl⟩) hP rfl (Nat.le_of_ble_eq_true rfl) d_LW_law_410 ⟨hc, hs⟩ ?_
    refine lv_iload hx hb d_LW_law_413 (lv_at hl 1 rfl) ?_
    refine lv_icmp_eq (tgt := 420) hx hb d_LW_law_415 (by decide) (fun _ => ?_) (fun c8 => absurd rfl c8)
    refine lv_iload hx hb d_LW_law_420 (lv_at hl 1 rfl) ?_
    refine lv_if_ne (tgt := 444) hx hb d_LW_law_422 (by decide) (fun _ => ?_) (fun c7 => ?_)
    · refine lv_goto (tgt := 1484) hx hb d_LW_law_444 (by decide) ?_
      exact kk _ _ _ hP hS (lv_sub hl [2, 3, 4, 5, 6] rfl)
    · refine lv_aload_n hx hb d_LW_law_425 rfl (lv_at hl 5 rfl) ?_
      refine lv_iconst (v := 0) hx hb d_LW_law_426 (by decide) ?_
      refine va_lald (D := G) hx hb hE.2.2.1 (wL_h hP) 32 0 rfl rfl (inB_in (by decide)) d_LW_law_427 ?_
      refine lv_iload hx hb d_LW_law_428 (lv_at hl 0 rfl) ?_
      refine lv_if_eq (tgt := 437) hx hb d_LW_law_430 (by decide) (fun c6 => ?_) (fun c6 => ?_)
      · refine lv_lconst (v := 0) hx hb d_LW_law_437 (by decide) ?_
        refine W.lcmp hx hb d_LW_law_438 ?_
        refine lv_if_eq (tgt := 444) hx hb d_LW_law_439 (by decide) (fun _ => ?_) (fun c5 => absurd (by rw [g4 c7, if_pos c6]; exact lg_same _) c5)
        refine lv_goto (tgt := 1484) hx hb d_LW_law_444 (by decide) ?_
        exact kk _ _ _ hP hS (lv_sub hl [2, 3, 4, 5, 6] rfl)
      · refine lv_lconst (v := 1) hx hb d_LW_law_433 (by decide) ?_
        refine lv_goto (tgt := 438) hx hb d_LW_law_434 (by decide) ?_
        refine W.lcmp hx hb d_LW_law_438 ?_
        refine lv_if_eq (tgt := 444) hx hb d_LW_law_439 (by decide) (fun _ => ?_) (fun c5 => absurd (by rw [g4 c7, if_neg c6]; exact lg_same _) c5)
        refine lv_goto (tgt := 1484) hx hb d_LW_law_444 (by decide) ?_
        exact kk _ _ _ hP hS (lv_sub hl [2, 3, 4, 5, 6] rfl)
set_option maxHeartbeats 4000000 in
set_option maxRecDepth 100000 in
theorem lc_box {p : Program} {l : Launch} {e : Env} {s : State} {m : MethodId} {below : List Frame} {meth : Method} {c : Code} {b L : Nat} {xs : Nat → Int32} {G : va_G} {cI cZ cJ : ClassId} {ad : Nat → Nat} {aO : Nat} {am : Nat → Nat} (hfl : l.flags = pinnedFlags ++ [noTraceFlag]) (E : EL p s m meth c b L xs G cI cZ cJ ad aO am) {σ σ' τ τ' : Sg} {y y' : Nat → Int64} {i : Nat} {x4 : Int32} (ex : x4 = nI i) (hi : i + 6 ≤ L) {k b9 : Int32} (g1 : h_box σ y (xs (i + 1)) = some (k, y', σ')) (g2 : f_MD_box τ (xs (i + 1)) = some (b9, τ')) (g3 : f_MD_thrown τ' = some k) (g4 : k = 0 → y' (Int32.toNatClampNeg 0) = if b9 = 0 then 0 else 1) {H : Heap} {locs : List Loc} {cells slots : Nat} {ls : Array Slot} (hP : va_P G clX (wL ad cI cZ cJ aO am σ y τ) H) (hS : va_S (fun q : Nat => s.heap.size ≤ q) s.heap H locs) (hc : cells + 1 ≤ 1088) (hs : slots + 6 ≤ 14225) (hl : lv_has ls 7 [(0, .ref b), (1, .ref (ad 0)), (2, .ref (am 0)), (3, .ref aO), (4, .int x4)]) (kk : ∀ (H1 : Heap) (locs1 : List Loc) (ls1 : Array Slot), va_P G clX (wL ad cI cZ cJ aO am σ' y' τ') H1 → va_S (fun q : Nat => s.heap.size ≤ q) s.heap H1 locs1 → lv_has ls1 7 [(0, .ref b), (1, .ref (ad 0)), (2, .ref (am 0)), (3, .ref aO), (4, .int x4)] → W p l e room_1 s m #[Value.ref b] below meth c H1 locs1 (cells + 1) (slots + 6) (lw_Z below #[Value.ref b] s) (F0 m 1484 ls1 [])) : W p l e room_1 s m #[Value.ref b] below meth c H locs cells slots (lw_Z below #[Value.ref b] s) (F0 m 447 ls []) := by
  obtain ⟨hx, hb, hr, hml, hown, hts, hX, hbl, hlocks, hL, hE, hD⟩ := E
  have hbA : ¬ (fun q : Nat => s.heap.size ≤ q) b := Nat.not_le.mpr hbl
  refine lv_aload_n hx hb d_LW_law_447 rfl (lv_at hl 1 rfl) ?_
  refine lv_aload_n hx hb d_LW_law_448 rfl (lv_at hl 0 rfl) ?_
  refine lv_iload hx hb d_LW_law_449 (lv_at hl 4 rfl) ?_
  refine lv_iconst (v := nI 1) hx hb d_LW_law_451 (by decide) ?_
  refine lv_iadd hx hb d_LW_law_452 ?_
  refine va_sld hx hb hX hbl hbA hS (lw_ix (j := 1) (by omega) hL ex).1 d_LW_law_453 ?_
  refine W.eq (g2 := F0 m 454 ls [.int (xs (i + 1)), .ref (ad 0)]) (by rw [(lw_ix (j := 1) (show i + 1 < L by omega) hL ex).2]) ?_
  refine lv_aload_n hx hb d_LW_law_454 rfl (lv_at hl 3 rfl) ?_
  refine lw_help (n := 3) (As := [.ref (ad 0), .int (xs (i + 1)), .ref aO]) (rest := []) ⟨hx, hb, hml.trans hl.1.symm, hown, hts⟩ hD hE (c_LW_box l hfl s.heap.size G ad cI cZ cJ aO hD.1 σ y (xs (i + 1)) (k, y', σ') g1) rfl rfl ⟨Nat.le_of_ble_eq_true rfl, Nat.le_of_ble_eq_true rfl⟩ w_378 w_0 w_376 w_377 (by decide +kernel) hP hS rfl (Nat.le_of_ble_eq_true rfl) d_LW_law_455 ⟨hc, hs⟩ (fun H locs hP hS => ?_)
  have hP : va_P G clX (wL ad cI cZ cJ aO am σ' y' τ) H := hP
  refine lv_istore (lv' := [(5, .int k), (0, .ref b), (1, .ref (ad 0)), (2, .ref (am 0)), (3, .ref aO), (4, .int x4)]) hx hb d_LW_law_458 hl (by decide) rfl (fun ls hl => ?_)
  refine lv_aload_n hx hb d_LW_law_460 rfl (lv_at hl 3 rfl) ?_
  refine lv_aload_n hx hb d_LW_law_461 rfl (lv_at hl 1 rfl) ?_
  refine lv_iload hx hb d_LW_law_462 (lv_at hl 5 rfl) ?_
  refine lv_iconst (v := nI 1) hx hb d_LW_law_464 (by decide) ?_
  refine lv_iadd hx hb d_LW_law_465 ?_
  refine va_sld hx hb hX hbl hbA hS (lw_ix (j := 1) (by omega) hL ex).1 d_LW_law_466 ?_
  refine W.eq (g2 := F0 m 467 ls [.int (xs (i + 1)), .ref (am 0)]) (by rw [(lw_ix (j := 1) (show i + 1 < L by omega) hL ex).2]) ?_
  refine lw_model (As := [.int (xs (i + 1))]) (rest := []) ⟨hx, hb, hml.trans hl.1.symm, hown, hts⟩ hD hE (c_MD_box l G am cI cZ hD.2.1 τ (xs (i + 1)) (b9, τ') g2) (cwV 1 hts (wg_V w_740 w_741 w_742 w_8 w_743) rfl rfl rfl (by decide +kernel) ⟨Nat.le_of_ble_eq_true rfl, Nat.le_of_ble_eq_true rfl⟩) hP hS rfl (Nat.le_of_ble_eq_true rfl) d_LW_law_467 ⟨hc, hs⟩ (fun H locs hP hS => ?_)
  have hP : va_P G clX (wL ad cI cZ cJ aO am σ' y' τ') H := hP
  refine lv_istore (lv' := [(6, .int b9), (5, .int k), (0, .ref b), (1, .ref (ad 0)), (2, .ref (am 0)), (3, .ref aO), (4, .int x4)]) hx hb d_LW_law_470 hl (by decide) rfl (fun ls hl => ?_)
  refine lv_aload_n hx hb d_LW_law_472 rfl (lv_at hl 4 rfl) ?_
  refine lw_thrown (As := []) (rest := []) ⟨hx, hb, hml.trans hl.1.symm, hown, hts⟩ hE (c_MD_thrown l G am cI cZ τ' k g3) (cwV 0 hts (wg_V w_697 w_698 w_699 w_8 w_700) rfl rfl rfl (by decide +kernel) ⟨Nat.le_of_ble_eq_true rfl, Nat.le_of_ble_eq_true rfl⟩) hP rfl (Nat.le_of_ble_eq_true rfl) d_LW_law_473 ⟨hc, hs⟩ ?_
  refine lv_iload hx hb d_LW_law_476 (lv_at hl 1 rfl) ?_
  refine lv_icmp_eq (tgt := 483) hx hb d_LW_law_478 (by decide) (fun _ => ?_) (fun c8 => absurd rfl c8)
  refine lv_iload hx hb d_LW_law_483 (lv_at hl 1 rfl) ?_
  refine lv_if_ne (tgt := 507) hx hb d_LW_law_485 (by decide) (fun _ => ?_) (fun c7 => ?_)
  · refine lv_goto (tgt := 1484) hx hb d_LW_law_507 (by decide) ?_
    exact kk _ _ _ hP hS (lv_sub hl [2, 3, 4, 5, 6] rfl)
  · refine lv_aload_n hx hb d_LW_law_488 rfl (lv_at hl 5 rfl) ?_
    refine lv_iconst (v := 0) hx hb d_LW_law_489 (by decide) ?_
    refine va_lald (D := G) hx hb hE.2.2.1 (wL_h hP) 32 0 rfl rfl (inB_in (by decide)) d_LW_law_490 ?_
    refine lv_iload hx hb d_LW_law_491 (lv_at hl 0 rfl) ?_
    refine lv_if_eq (tgt := 500) hx hb d_LW_law_493 (by decide) (fun c6 => ?_) (fun c6 => ?_)
    · refine lv_lconst (v := 0) hx hb d_LW_law_500 (by decide) ?_
      refine W.lcmp hx hb d_LW_law_501 ?_
      refine lv_if_eq (tgt := 507) hx hb d_LW_law_502 (by decide) (fun _ => ?_) (fun c5 => absurd (by rw [g4 c7, if_pos c6]; exact lg_same _) c5)
      refine lv_goto (tgt := 1484) hx hb d_LW_law_507 (by decide) ?_
      exact kk _ _ _ hP hS (lv_sub hl [2, 3, 4, 5, 6] rfl)
    · refine lv_lconst (v := 1) hx hb d_LW_law_496 (by decide) ?_
      refine lv_goto (tgt := 501) hx hb d_LW_law_497 (by decide) ?_
      refine W.lcmp hx hb d_LW_law_501 ?_
      refine lv_if_eq (tgt := 507) hx hb d_LW_law_502 (by decide) (fun _ => ?_) (fun c5 => absurd (by rw [g4 c7, if_neg c6]; exact lg_same _) c5)
      refine lv_goto (tgt := 1484) hx hb d_LW_law_507 (by decide) ?_
      exact kk _ _ _ hP hS (lv_sub hl [2, 3, 4, 5, 6] rfl)
set_option maxHeartbeats 4000000 in
set_option maxRecDepth 100000 in
theorem lc_move {p : Program} {l : Launch} {e : Env} {s : State} {m : MethodId} {below : List Frame} {meth : Method} {c : Code} {b L : Nat} {xs : Nat → Int32} {G : va_G} {cI cZ cJ : ClassId} {ad : Nat → Nat} {aO : Nat} {am : Nat → Nat} (hfl : l.flags = pinnedFlags ++ [noTraceFlag]) (E : EL p s m meth c b L xs G cI cZ cJ ad aO am) {σ σ' τ τ' : Sg} {y y' : Nat → Int64} {i : Nat} {x4 : Int32} (ex : x4 = nI i) (hi : i + 6 ≤ L) {k b9 : Int32} (g1 : h_move σ y (xs (i + 1)) (xs (i + 2)) (xs (i + 3)) (xs (i + 4)) (xs (i + 5)) = some (k, y', σ')) (g2 : f_MD_move τ (xs (i + 1)) (xs (i + 2)) (xs (i + 3)) (xs (i + 4)) (xs (i + 5)) = some (b9, τ')) (g3 : f_MD_thrown τ' = some k) (g4 : k = 0 → y' (Int32.toNatClampNeg 0) = Int32.toInt64 b9) {H : Heap} {locs : List Loc} {cells slots : Nat} {ls : Array Slot} (hP : va_P G clX (wL ad cI cZ cJ aO am σ y τ) H) (hS : va_S (fun q : Nat => s.heap.size ≤ q) s.heap H locs) (hc : cells + 1 ≤ 1088) (hs : slots + 6 ≤ 14225) (hl : lv_has ls 7 [(0, .ref b), (1, .ref (ad 0)), (2, .ref (am 0)), (3, .ref aO), (4, .int x4)]) (kk : ∀ (H1 : Heap) (locs1 : List Loc) (ls1 : Array Slot), va_P G clX (wL ad cI cZ cJ aO am σ' y' τ') H1 → va_S (fun q : Nat => s.heap.size ≤ q) s.heap H1 locs1 → lv_has ls1 7 [(0, .ref b), (1, .ref (ad 0)), (2, .ref (am 0)), (3, .ref aO), (4, .int x4)] → W p l e room_1 s m #[Value.ref b] below meth c H1 locs1 (cells + 1) (slots + 6) (lw_Z below #[Value.ref b] s) (F0 m 1484 ls1 [])) : W p l e room_1 s m #[Value.ref b] below meth c H locs cells slots (lw_Z below #[Value.ref b] s) (F0 m 510 ls []) := by
  obtain ⟨hx, hb, hr, hml, hown, hts, hX, hbl, hlocks, hL, hE, hD⟩ := E
  have hbA : ¬ (fun q : Nat => s.heap.size ≤ q) b := Nat.not_le.mpr hbl
  refine lv_aload_n hx hb d_LW_law_510 rfl (lv_at hl 1 rfl) ?_
  refine lv_aload_n hx hb d_LW_law_511 rfl (lv_at hl 0 rfl) ?_
  refine lv_iload hx hb d_LW_law_512 (lv_at hl 4 rfl) ?_
  refine lv_iconst (v := nI 1) hx hb d_LW_law_514 (by decide) ?_
  refine lv_iadd hx hb d_LW_law_515 ?_
  refine va_sld hx hb hX hbl hbA hS (lw_ix (j := 1) (by omega) hL ex).1 d_LW_law_516 ?_
  refine W.eq (g2 := F0 m 517 ls [.int (xs (i + 1)), .ref (ad 0)]) (by rw [(lw_ix (j := 1) (show i + 1 < L by omega) hL ex).2]) ?_
  refine lv_aload_n hx hb d_LW_law_517 rfl (lv_at hl 0 rfl) ?_
  refine lv_iload hx hb d_LW_law_518 (lv_at hl 4 rfl) ?_
  refine lv_iconst (v := nI 2) hx hb d_LW_law_520 (by decide) ?_
  refine lv_iadd hx hb d_LW_law_521 ?_
  refine va_sld hx hb hX hbl hbA hS (lw_ix (j := 2) (by omega) hL ex).1 d_LW_law_522 ?_
  refine W.eq (g2 := F0 m 523 ls [.int (xs (i + 2)), .int (xs (i + 1)), .ref (ad 0)]) (by rw [(lw_ix (j := 2) (show i + 2 < L by omega) hL ex).2]) ?_
  refine lv_aload_n hx hb d_LW_law_523 rfl (lv_at hl 0 rfl) ?_
  refine lv_iload hx hb d_LW_law_524 (lv_at hl 4 rfl) ?_
  refine lv_iconst (v := nI 3) hx hb d_LW_law_526 (by decide) ?_
  refine lv_iadd hx hb d_LW_law_527 ?_
  refine va_sld hx hb hX hbl hbA hS (lw_ix (j := 3) (by omega) hL ex).1 d_LW_law_528 ?_
  refine W.eq (g2 := F0 m 529 ls [.int (xs (i + 3)), .int (xs (i + 2)), .int (xs (i + 1)), .ref (ad 0)]) (by rw [(lw_ix (j := 3) (show i + 3 < L by omega) hL ex).2]) ?_
  refine lv_aload_n hx hb d_LW_law_529 rfl (lv_at hl 0 rfl) ?_
  refine lv_iload hx hb d_LW_law_530 (lv_at hl 4 rfl) ?_
  refine lv_iconst (v := nI 4) hx hb d_LW_law_532 (by decide) ?_
  refine lv_iadd hx hb d_LW_law_533 ?_
  refine va_sld hx hb hX hbl hbA hS (lw_ix (j := 4) (by omega) hL ex).1 d_LW_law_534 ?_
  refine W.eq (g2 := F0 m 535 ls [.int (xs (i + 4)), .int (xs (i + 3)), .int (xs (i + 2)), .int (xs (i + 1)), .ref (ad 0)]) (by rw [(lw_ix (j := 4) (show i + 4 < L by omega) hL ex).2]) ?_
  refine lv_aload_n hx hb d_LW_law_535 rfl (lv_at hl 0 rfl) ?_
  refine lv_iload hx hb d_LW_law_536 (lv_at hl 4 rfl) ?_
  refine lv_iconst (v := nI 5) hx hb d_LW_law_538 (by decide) ?_
  refine lv_iadd hx hb d_LW_law_539 ?_
  refine va_sld hx hb hX hbl hbA hS (lw_ix (j := 5) (by omega) hL ex).1 d_LW_law_540 ?_
  refine W.eq (g2 := F0 m 541 ls [.int (xs (i + 5)), .int (xs (i + 4)), .int (xs (i + 3)), .int (xs (i + 2)), .int (xs (i + 1)), .ref (ad 0)]) (by rw [(lw_ix (j := 5) (show i + 5 < L by omega) hL ex).2]) ?_
  refine lv_aload_n hx hb d_LW_law_541 rfl (lv_at hl 3 rfl) ?_
  refine lw_help (n := 7) (As := [.ref (ad 0), .int (xs (i + 1)), .int (xs (i + 2)), .int (xs (i + 3)), .int (xs (i + 4)), .int (xs (i + 5)), .ref aO]) (rest := []) ⟨hx, hb, hml.trans hl.1.symm, hown, hts⟩ hD hE (c_LW_move l hfl s.heap.size G ad cI cZ cJ aO hD.1 σ y (xs (i + 1)) (xs (i + 2)) (xs (i + 3)) (xs (i + 4)) (xs (i + 5)) (k, y', σ') g1) rfl rfl ⟨Nat.le_of_ble_eq_true rfl, Nat.le_of_ble_eq_true rfl⟩ w_385 w_0 w_383 w_384 (by decide +kernel) hP hS rfl (Nat.le_of_ble_eq_true rfl) d_LW_law_542 ⟨hc, hs⟩ (fun H locs hP hS => ?_)
  have hP : va_P G clX (wL ad cI cZ cJ aO am σ' y' τ) H := hP
  refine lv_istore (lv' := [(5, .int k), (0, .ref b), (1, .ref (ad 0)), (2, .ref (am 0)), (3, .ref aO), (4, .int x4)]) hx hb d_LW_law_545 hl (by decide) rfl (fun ls hl => ?_)
  refine lv_aload_n hx hb d_LW_law_547 rfl (lv_at hl 3 rfl) ?_
  refine lv_aload_n hx hb d_LW_law_548 rfl (lv_at hl 1 rfl) ?_
  refine lv_iload hx hb d_LW_law_549 (lv_at hl 5 rfl) ?_
  refine lv_iconst (v := nI 1) hx hb d_LW_law_551 (by decide) ?_
  refine lv_iadd hx hb d_LW_law_552 ?_
  refine va_sld hx hb hX hbl hbA hS (lw_ix (j := 1) (by omega) hL ex).1 d_LW_law_553 ?_
  refine W.eq (g2 := F0 m 554 ls [.int (xs (i + 1)), .ref (am 0)]) (by rw [(lw_ix (j := 1) (show i + 1 < L by omega) hL ex).2]) ?_
  refine lv_aload_n hx hb d_LW_law_554 rfl (lv_at hl 1 rfl) ?_
  refine lv_iload hx hb d_LW_law_555 (lv_at hl 5 rfl) ?_
  refine lv_iconst (v := nI 2) hx hb d_LW_law_557 (by decide) ?_
  refine lv_iadd hx hb d_LW_law_558 ?_
  refine va_sld hx hb hX hbl hbA hS (lw_ix (j := 2) (by omega) hL ex).1 d_LW_law_559 ?_
  refine W.eq (g2 := F0 m 560 ls [.int (xs (i + 2)), .int (xs (i + 1)), .ref (am 0)]) (by rw [(lw_ix (j := 2) (show i + 2 < L by omega) hL ex).2]) ?_
  refine lv_aload_n hx hb d_LW_law_560 rfl (lv_at hl 1 rfl) ?_
  refine lv_iload hx hb d_LW_law_561 (lv_at hl 5 rfl) ?_
  refine lv_iconst (v := nI 3) hx hb d_LW_law_563 (by decide) ?_
  refine lv_iadd hx hb d_LW_law_564 ?_
  refine va_sld hx hb hX hbl hbA hS (lw_ix (j := 3) (by omega) hL ex).1 d_LW_law_565 ?_
  refine W.eq (g2 := F0 m 566 ls [.int (xs (i + 3)), .int (xs (i + 2)), .int (xs (i + 1)), .ref (am 0)]) (by rw [(lw_ix (j := 3) (show i + 3 < L by omega) hL ex).2]) ?_
  refine lv_aload_n hx hb d_LW_law_566 rfl (lv_at hl 1 rfl) ?_
  refine lv_iload hx hb d_LW_law_567 (lv_at hl 5 rfl) ?_
  refine lv_iconst (v := nI 4) hx hb d_LW_law_569 (by decide) ?_
  refine lv_iadd hx hb d_LW_law_570 ?_
  refine va_sld hx hb hX hbl hbA hS (lw_ix (j := 4) (by omega) hL ex).1 d_LW_law_571 ?_
  refine W.eq (g2 := F0 m 572 ls [.int (xs (i + 4)), .int (xs (i + 3)), .int (xs (i + 2)), .int (xs (i + 1)), .ref (am 0)]) (by rw [(lw_ix (j := 4) (show i + 4 < L by omega) hL ex).2]) ?_
  refine lv_aload_n hx hb d_LW_law_572 rfl (lv_at hl 1 rfl) ?_
  refine lv_iload hx hb d_LW_law_573 (lv_at hl 5 rfl) ?_
  refine lv_iconst (v := nI 5) hx hb d_LW_law_575 (by decide) ?_
  refine lv_iadd hx hb d_LW_law_576 ?_
  refine va_sld hx hb hX hbl hbA hS (lw_ix (j := 5) (by omega) hL ex).1 d_LW_law_577 ?_
  refine W.eq (g2 := F0 m 578 ls [.int (xs (i + 5)), .int (xs (i + 4)), .int (xs (i + 3)), .int (xs (i + 2)), .int (xs (i + 1)), .ref (am 0)]) (by rw [(lw_ix (j := 5) (show i + 5 < L by omega) hL ex).2]) ?_
  refine lw_model (As := [.int (xs (i + 1)), .int (xs (i + 2)), .int (xs (i + 3)), .int (xs (i + 4)), .int (xs (i + 5))]) (rest := []) ⟨hx, hb, hml.trans hl.1.symm, hown, hts⟩ hD hE (c_MD_move l G am cI cZ hD.2.1 τ (xs (i + 1)) (xs (i + 2)) (xs (i + 3)) (xs (i + 4)) (xs (i + 5)) (b9, τ') g2) (cwV 5 hts (wg_V w_744 w_745 w_746 w_8 w_747) rfl rfl rfl (by decide +kernel) ⟨Nat.le_of_ble_eq_true rfl, Nat.le_of_ble_eq_true rfl⟩) hP hS rfl (Nat.le_of_ble_eq_true rfl) d_LW_law_578 ⟨hc, hs⟩ (fun H locs hP hS => ?_)
  have hP : va_P G clX (wL ad cI cZ cJ aO am σ' y' τ') H := hP
  refine lv_istore (lv' := [(6, .int b9), (5, .int k), (0, .ref b), (1, .ref (ad 0)), (2, .ref (am 0)), (3, .ref aO), (4, .int x4)]) hx hb d_LW_law_581 hl (by decide) rfl (fun ls hl => ?_)
  refine lv_aload_n hx hb d_LW_law_583 rfl (lv_at hl 4 rfl) ?_
  refine lw_thrown (As := []) (rest := []) ⟨hx, hb, hml.trans hl.1.symm, hown, hts⟩ hE (c_MD_thrown l G am cI cZ τ' k g3) (cwV 0 hts (wg_V w_697 w_698 w_699 w_8 w_700) rfl rfl rfl (by decide +kernel) ⟨Nat.le_of_ble_eq_true rfl, Nat.le_of_ble_eq_true rfl⟩) hP rfl (Nat.le_of_ble_eq_true rfl) d_LW_law_584 ⟨hc, hs⟩ ?_
  refine lv_iload hx hb d_LW_law_587 (lv_at hl 1 rfl) ?_
  refine lv_icmp_eq (tgt := 594) hx hb d_LW_law_589 (by decide) (fun _ => ?_) (fun c8 => absurd rfl c8)
  refine lv_iload hx hb d_LW_law_594 (lv_at hl 1 rfl) ?_
  refine lv_if_ne (tgt := 611) hx hb d_LW_law_596 (by decide) (fun _ => ?_) (fun c7 => ?_)
  · refine lv_goto (tgt := 1484) hx hb d_LW_law_611 (by decide) ?_
    exact kk _ _ _ hP hS (lv_sub hl [2, 3, 4, 5, 6] rfl)
  · refine lv_aload_n hx hb d_LW_law_599 rfl (lv_at hl 5 rfl) ?_
    refine lv_iconst (v := 0) hx hb d_LW_law_600 (by decide) ?_
    refine va_lald (D := G) hx hb hE.2.2.1 (wL_h hP) 32 0 rfl rfl (inB_in (by decide)) d_LW_law_601 ?_
    refine lv_iload hx hb d_LW_law_602 (lv_at hl 0 rfl) ?_
    refine lv_i2l (v := Int32.toInt64 b9) hx hb d_LW_law_604 rfl ?_
    refine W.lcmp hx hb d_LW_law_605 ?_
    refine lv_if_eq (tgt := 611) hx hb d_LW_law_606 (by decide) (fun _ => ?_) (fun c5 => absurd (by rw [g4 c7]; exact lg_same _) c5)
    refine lv_goto (tgt := 1484) hx hb d_LW_law_611 (by decide) ?_
    exact kk _ _ _ hP hS (lv_sub hl [2, 3, 4, 5, 6] rfl)
set_option maxHeartbeats 4000000 in
set_option maxRecDepth 100000 in
theorem lc_into {p : Program} {l : Launch} {e : Env} {s : State} {m : MethodId} {below : List Frame} {meth : Method} {c : Code} {b L : Nat} {xs : Nat → Int32} {G : va_G} {cI cZ cJ : ClassId} {ad : Nat → Nat} {aO : Nat} {am : Nat → Nat} (hfl : l.flags = pinnedFlags ++ [noTraceFlag]) (E : EL p s m meth c b L xs G cI cZ cJ ad aO am) {σ σ' τ τ' : Sg} {y y' : Nat → Int64} {i : Nat} {x4 : Int32} (ex : x4 = nI i) (hi : i + 6 ≤ L) {k b9 : Int32} (g1 : h_into σ y (xs (i + 1)) (xs (i + 2)) (xs (i + 3)) = some (k, y', σ')) (g2 : f_MD_into τ (xs (i + 1)) (xs (i + 2)) (xs (i + 3)) = some (b9, τ')) (g3 : f_MD_thrown τ' = some k) (g4 : k = 0 → y' (Int32.toNatClampNeg 0) = Int32.toInt64 b9) {H : Heap} {locs : List Loc} {cells slots : Nat} {ls : Array Slot} (hP : va_P G clX (wL ad cI cZ cJ aO am σ y τ) H) (hS : va_S (fun q : Nat => s.heap.size ≤ q) s.heap H locs) (hc : cells + 1 ≤ 1088) (hs : slots + 6 ≤ 14225) (hl : lv_has ls 7 [(0, .ref b), (1, .ref (ad 0)), (2, .ref (am 0)), (3, .ref aO), (4, .int x4)]) (kk : ∀ (H1 : Heap) (locs1 : List Loc) (ls1 : Array Slot), va_P G clX (wL ad cI cZ cJ aO am σ' y' τ') H1 → va_S (fun q : Nat => s.heap.size ≤ q) s.heap H1 locs1 → lv_has ls1 7 [(0, .ref b), (1, .ref (ad 0)), (2, .ref (am 0)), (3, .ref aO), (4, .int x4)] → W p l e room_1 s m #[Value.ref b] below meth c H1 locs1 (cells + 1) (slots + 6) (lw_Z below #[Value.ref b] s) (F0 m 1484 ls1 [])) : W p l e room_1 s m #[Value.ref b] below meth c H locs cells slots (lw_Z below #[Value.ref b] s) (F0 m 614 ls []) := by
  obtain ⟨hx, hb, hr, hml, hown, hts, hX, hbl, hlocks, hL, hE, hD⟩ := E
  have hbA : ¬ (fun q : Nat => s.heap.size ≤ q) b := Nat.not_le.mpr hbl
  refine lv_aload_n hx hb d_LW_law_614 rfl (lv_at hl 1 rfl) ?_
  refine lv_aload_n hx hb d_LW_law_615 rfl (lv_at hl 0 rfl) ?_
  refine lv_iload hx hb d_LW_law_616 (lv_at hl 4 rfl) ?_
  refine lv_iconst (v := nI 1) hx hb d_LW_law_618 (by decide) ?_
  refine lv_iadd hx hb d_LW_law_619 ?_
  refine va_sld hx hb hX hbl hbA hS (lw_ix (j := 1) (by omega) hL ex).1 d_LW_law_620 ?_
  refine W.eq (g2 := F0 m 621 ls [.int (xs (i + 1)), .ref (ad 0)]) (by rw [(lw_ix (j := 1) (show i + 1 < L by omega) hL ex).2]) ?_
  refine lv_aload_n hx hb d_LW_law_621 rfl (lv_at hl 0 rfl) ?_
  refine lv_iload hx hb d_LW_law_622 (lv_at hl 4 rfl) ?_
  refine lv_iconst (v := nI 2) hx hb d_LW_law_624 (by decide) ?_
  refine lv_iadd hx hb d_LW_law_625 ?_
  refine va_sld hx hb hX hbl hbA hS (lw_ix (j := 2) (by omega) hL ex).1 d_LW_law_626 ?_
  refine W.eq (g2 := F0 m 627 ls [.int (xs (i + 2)), .int (xs (i + 1)), .ref (ad 0)]) (by rw [(lw_ix (j := 2) (show i + 2 < L by omega) hL ex).2]) ?_
  refine lv_aload_n hx hb d_LW_law_627 rfl (lv_at hl 0 rfl) ?_
  refine lv_iload hx hb d_LW_law_628 (lv_at hl 4 rfl) ?_
  refine lv_iconst (v := nI 3) hx hb d_LW_law_630 (by decide) ?_
  refine lv_iadd hx hb d_LW_law_631 ?_
  refine va_sld hx hb hX hbl hbA hS (lw_ix (j := 3) (by omega) hL ex).1 d_LW_law_632 ?_
  refine W.eq (g2 := F0 m 633 ls [.int (xs (i + 3)), .int (xs (i + 2)), .int (xs (i + 1)), .ref (ad 0)]) (by rw [(lw_ix (j := 3) (show i + 3 < L by omega) hL ex).2]) ?_
  refine lv_aload_n hx hb d_LW_law_633 rfl (lv_at hl 3 rfl) ?_
  refine lw_help (n := 5) (As := [.ref (ad 0), .int (xs (i + 1)), .int (xs (i + 2)), .int (xs (i + 3)), .ref aO]) (rest := []) ⟨hx, hb, hml.trans hl.1.symm, hown, hts⟩ hD hE (c_LW_into l hfl s.heap.size G ad cI cZ cJ aO hD.1 σ y (xs (i + 1)) (xs (i + 2)) (xs (i + 3)) (k, y', σ') g1) rfl rfl ⟨Nat.le_of_ble_eq_true rfl, Nat.le_of_ble_eq_true rfl⟩ w_453 w_0 w_451 w_452 (by decide +kernel) hP hS rfl (Nat.le_of_ble_eq_true rfl) d_LW_law_634 ⟨hc, hs⟩ (fun H locs hP hS => ?_)
  have hP : va_P G clX (wL ad cI cZ cJ aO am σ' y' τ) H := hP
  refine lv_istore (lv' := [(5, .int k), (0, .ref b), (1, .ref (ad 0)), (2, .ref (am 0)), (3, .ref aO), (4, .int x4)]) hx hb d_LW_law_637 hl (by decide) rfl (fun ls hl => ?_)
  refine lv_aload_n hx hb d_LW_law_639 rfl (lv_at hl 3 rfl) ?_
  refine lv_aload_n hx hb d_LW_law_640 rfl (lv_at hl 1 rfl) ?_
  refine lv_iload hx hb d_LW_law_641 (lv_at hl 5 rfl) ?_
  refine lv_iconst (v := nI 1) hx hb d_LW_law_643 (by decide) ?_
  refine lv_iadd hx hb d_LW_law_644 ?_
  refine va_sld hx hb hX hbl hbA hS (lw_ix (j := 1) (by omega) hL ex).1 d_LW_law_645 ?_
  refine W.eq (g2 := F0 m 646 ls [.int (xs (i + 1)), .ref (am 0)]) (by rw [(lw_ix (j := 1) (show i + 1 < L by omega) hL ex).2]) ?_
  refine lv_aload_n hx hb d_LW_law_646 rfl (lv_at hl 1 rfl) ?_
  refine lv_iload hx hb d_LW_law_647 (lv_at hl 5 rfl) ?_
  refine lv_iconst (v := nI 2) hx hb d_LW_law_649 (by decide) ?_
  refine lv_iadd hx hb d_LW_law_650 ?_
  refine va_sld hx hb hX hbl hbA hS (lw_ix (j := 2) (by omega) hL ex).1 d_LW_law_651 ?_
  refine W.eq (g2 := F0 m 652 ls [.int (xs (i + 2)), .int (xs (i + 1)), .ref (am 0)]) (by rw [(lw_ix (j := 2) (show i + 2 < L by omega) hL ex).2]) ?_
  refine lv_aload_n hx hb d_LW_law_652 rfl (lv_at hl 1 rfl) ?_
  refine lv_iload hx hb d_LW_law_653 (lv_at hl 5 rfl) ?_
  refine lv_iconst (v := nI 3) hx hb d_LW_law_655 (by decide) ?_
  refine lv_iadd hx hb d_LW_law_656 ?_
  refine va_sld hx hb hX hbl hbA hS (lw_ix (j := 3) (by omega) hL ex).1 d_LW_law_657 ?_
  refine W.eq (g2 := F0 m 658 ls [.int (xs (i + 3)), .int (xs (i + 2)), .int (xs (i + 1)), .ref (am 0)]) (by rw [(lw_ix (j := 3) (show i + 3 < L by omega) hL ex).2]) ?_
  refine lw_model (As := [.int (xs (i + 1)), .int (xs (i + 2)), .int (xs (i + 3))]) (rest := []) ⟨hx, hb, hml.trans hl.1.symm, hown, hts⟩ hD hE (c_MD_into l G am cI cZ hD.2.1 τ (xs (i + 1)) (xs (i + 2)) (xs (i + 3)) (b9, τ') g2) (cwV 3 hts (wg_V w_788 w_789 w_790 w_8 w_791) rfl rfl rfl (by decide +kernel) ⟨Nat.le_of_ble_eq_true rfl, Nat.le_of_ble_eq_true rfl⟩) hP hS rfl (Nat.le_of_ble_eq_true rfl) d_LW_law_658 ⟨hc, hs⟩ (fun H locs hP hS => ?_)
  have hP : va_P G clX (wL ad cI cZ cJ aO am σ' y' τ') H := hP
  refine lv_istore (lv' := [(6, .int b9), (5, .int k), (0, .ref b), (1, .ref (ad 0)), (2, .ref (am 0)), (3, .ref aO), (4, .int x4)]) hx hb d_LW_law_661 hl (by decide) rfl (fun ls hl => ?_)
  refine lv_aload_n hx hb d_LW_law_663 rfl (lv_at hl 4 rfl) ?_
  refine lw_thrown (As := []) (rest := []) ⟨hx, hb, hml.trans hl.1.symm, hown, hts⟩ hE (c_MD_thrown l G am cI cZ τ' k g3) (cwV 0 hts (wg_V w_697 w_698 w_699 w_8 w_700) rfl rfl rfl (by decide +kernel) ⟨Nat.le_of_ble_eq_true rfl, Nat.le_of_ble_eq_true rfl⟩) hP rfl (Nat.le_of_ble_eq_true rfl) d_LW_law_664 ⟨hc, hs⟩ ?_
  refine lv_iload hx hb d_LW_law_667 (lv_at hl 1 rfl) ?_
  refine lv_icmp_eq (tgt := 674) hx hb d_LW_law_669 (by decide) (fun _ => ?_) (fun c8 => absurd rfl c8)
  refine lv_iload hx hb d_LW_law_674 (lv_at hl 1 rfl) ?_
  refine lv_if_ne (tgt := 691) hx hb d_LW_law_676 (by decide) (fun _ => ?_) (fun c7 => ?_)
  · refine lv_goto (tgt := 1484) hx hb d_LW_law_691 (by decide) ?_
    exact kk _ _ _ hP hS (lv_sub hl [2, 3, 4, 5, 6] rfl)
  · refine lv_aload_n hx hb d_LW_law_679 rfl (lv_at hl 5 rfl) ?_
    refine lv_iconst (v := 0) hx hb d_LW_law_680 (by decide) ?_
    refine va_lald (D := G) hx hb hE.2.2.1 (wL_h hP) 32 0 rfl rfl (inB_in (by decide)) d_LW_law_681 ?_
    refine lv_iload hx hb d_LW_law_682 (lv_at hl 0 rfl) ?_
    refine lv_i2l (v := Int32.toInt64 b9) hx hb d_LW_law_684 rfl ?_
    refine W.lcmp hx hb d_LW_law_685 ?_
    refine lv_if_eq (tgt := 691) hx hb d_LW_law_686 (by decide) (fun _ => ?_) (fun c5 => absurd (by rw [g4 c7]; exact lg_same _) c5)
    refine lv_goto (tgt := 1484) hx hb d_LW_law_691 (by decide) ?_
    exact kk _ _ _ hP hS (lv_sub hl [2, 3, 4, 5, 6] rfl)
set_option maxHeartbeats 4000000 in
set_option maxRecDepth 100000 in
theorem lc_lost {p : Program} {l : Launch} {e : Env} {s : State} {m : MethodId} {below : List Frame} {meth : Method} {c : Code} {b L : Nat} {xs : Nat → Int32} {G : va_G} {cI cZ cJ : ClassId} {ad : Nat → Nat} {aO : Nat} {am : Nat → Nat} (hfl : l.flags = pinnedFlags ++ [noTraceFlag]) (E : EL p s m meth c b L xs G cI cZ cJ ad aO am) {σ σ' τ τ' : Sg} {y y' : Nat → Int64} {i : Nat} {x4 : Int32} (ex : x4 = nI i) (hi : i + 6 ≤ L) {k b9 : Int32} (g1 : h_lost σ y (xs (i + 1)) (xs (i + 2)) = some (k, y', σ')) (g2 : f_MD_lost τ (xs (i + 1)) (xs (i + 2)) = some (b9, τ')) (g3 : f_MD_thrown τ' = some k) (g4 : k = 0 → y' (Int32.toNatClampNeg 0) = if b9 = 0 then 0 else 1) {H : Heap} {locs : List Loc} {cells slots : Nat} {ls : Array Slot} (hP : va_P G clX (wL ad cI cZ cJ aO am σ y τ) H) (hS : va_S (fun q : Nat => s.heap.size ≤ q) s.heap H locs) (hc : cells + 1 ≤ 1088) (hs : slots + 6 ≤ 14225) (hl : lv_has ls 7 [(0, .ref b), (1, .ref (ad 0)), (2, .ref (am 0)), (3, .ref aO), (4, .int x4)]) (kk : ∀ (H1 : Heap) (locs1 : List Loc) (ls1 : Array Slot), va_P G clX (wL ad cI cZ cJ aO am σ' y' τ') H1 → va_S (fun q : Nat => s.heap.size ≤ q) s.heap H1 locs1 → lv_has ls1 7 [(0, .ref b), (1, .ref (ad 0)), (2, .ref (am 0)), (3, .ref aO), (4, .int x4)] → W p l e room_1 s m #[Value.ref b] below meth c H1 locs1 (cells + 1) (slots + 6) (lw_Z below #[Value.ref b] s) (F0 m 1484 ls1 [])) : W p l e room_1 s m #[Value.ref b] below meth c H locs cells slots (lw_Z below #[Value.ref b] s) (F0 m 694 ls []) := by
  obtain ⟨hx, hb, hr, hml, hown, hts, hX, hbl, hlocks, hL, hE, hD⟩ := E
  have hbA : ¬ (fun q : Nat => s.heap.size ≤ q) b := Nat.not_le.mpr hbl
  refine lv_aload_n hx hb d_LW_law_694 rfl (lv_at hl 1 rfl) ?_
  refine lv_aload_n hx hb d_LW_law_695 rfl (lv_at hl 0 rfl) ?_
  refine lv_iload hx hb d_LW_law_696 (lv_at hl 4 rfl) ?_
  refine lv_iconst (v := nI 1) hx hb d_LW_law_698 (by decide) ?_
  refine lv_iadd hx hb d_LW_law_699 ?_
  refine va_sld hx hb hX hbl hbA hS (lw_ix (j := 1) (by omega) hL ex).1 d_LW_law_700 ?_
  refine W.eq (g2 := F0 m 701 ls [.int (xs (i + 1)), .ref (ad 0)]) (by rw [(lw_ix (j := 1) (show i + 1 < L by omega) hL ex).2]) ?_
  refine lv_aload_n hx hb d_LW_law_701 rfl (lv_at hl 0 rfl) ?_
  refine lv_iload hx hb d_LW_law_702 (lv_at hl 4 rfl) ?_
  refine lv_iconst (v := nI 2) hx hb d_LW_law_704 (by decide) ?_
  refine lv_iadd hx hb d_LW_law_705 ?_
  refine va_sld hx hb hX hbl hbA hS (lw_ix (j := 2) (by omega) hL ex).1 d_LW_law_706 ?_
  refine W.eq (g2 := F0 m 707 ls [.int (xs (i + 2)), .int (xs (i + 1)), .ref (ad 0)]) (by rw [(lw_ix (j := 2) (show i + 2 < L by omega) hL ex).2]) ?_
  refine lv_aload_n hx hb d_LW_law_707 rfl (lv_at hl 3 rfl) ?_
  refine lw_help (n := 4) (As := [.ref (ad 0), .int (xs (i + 1)), .int (xs (i + 2)), .ref aO]) (rest := []) ⟨hx, hb, hml.trans hl.1.symm, hown, hts⟩ hD hE (c_LW_lost l hfl s.heap.size G ad cI cZ cJ aO hD.1 σ y (xs (i + 1)) (xs (i + 2)) (k, y', σ') g1) rfl rfl ⟨Nat.le_of_ble_eq_true rfl, Nat.le_of_ble_eq_true rfl⟩ w_468 w_0 w_466 w_467 (by decide +kernel) hP hS rfl (Nat.le_of_ble_eq_true rfl) d_LW_law_708 ⟨hc, hs⟩ (fun H locs hP hS => ?_)
  have hP : va_P G clX (wL ad cI cZ cJ aO am σ' y' τ) H := hP
  refine lv_istore (lv' := [(5, .int k), (0, .ref b), (1, .ref (ad 0)), (2, .ref (am 0)), (3, .ref aO), (4, .int x4)]) hx hb d_LW_law_711 hl (by decide) rfl (fun ls hl => ?_)
  refine lv_aload_n hx hb d_LW_law_713 rfl (lv_at hl 3 rfl) ?_
  refine lv_aload_n hx hb d_LW_law_714 rfl (lv_at hl 1 rfl) ?_
  refine lv_iload hx hb d_LW_law_715 (lv_at hl 5 rfl) ?_
  refine lv_iconst (v := nI 1) hx hb d_LW_law_717 (by decide) ?_
  refine lv_iadd hx hb d_LW_law_718 ?_
  refine va_sld hx hb hX hbl hbA hS (lw_ix (j := 1) (by omega) hL ex).1 d_LW_law_719 ?_
  refine W.eq (g2 := F0 m 720 ls [.int (xs (i + 1)), .ref (am 0)]) (by rw [(lw_ix (j := 1) (show i + 1 < L by omega) hL ex).2]) ?_
  refine lv_aload_n hx hb d_LW_law_720 rfl (lv_at hl 1 rfl) ?_
  refine lv_iload hx hb d_LW_law_721 (lv_at hl 5 rfl) ?_
  refine lv_iconst (v := nI 2) hx hb d_LW_law_723 (by decide) ?_
  refine lv_iadd hx hb d_LW_law_724 ?_
  refine va_sld hx hb hX hbl hbA hS (lw_ix (j := 2) (by omega) hL ex).1 d_LW_law_725 ?_
  refine W.eq (g2 := F0 m 726 ls [.int (xs (i + 2)), .int (xs (i + 1)), .ref (am 0)]) (by rw [(lw_ix (j := 2) (show i + 2 < L by omega) hL ex).2]) ?_
  refine lw_model (As := [.int (xs (i + 1)), .int (xs (i + 2))]) (rest := []) ⟨hx, hb, hml.trans hl.1.symm, hown, hts⟩ hD hE (c_MD_lost l G am cI cZ hD.2.1 τ (xs (i + 1)) (xs (i + 2)) (b9, τ') g2) (cwV 2 hts (wg_V w_804 w_805 w_806 w_8 w_807) rfl rfl rfl (by decide +kernel) ⟨Nat.le_of_ble_eq_true rfl, Nat.le_of_ble_eq_true rfl⟩) hP hS rfl (Nat.le_of_ble_eq_true rfl) d_LW_law_726 ⟨hc, hs⟩ (fun H locs hP hS => ?_)
  have hP : va_P G clX (wL ad cI cZ cJ aO am σ' y' τ') H := hP
  refine lv_istore (lv' := [(6, .int b9), (5, .int k), (0, .ref b), (1, .ref (ad 0)), (2, .ref (am 0)), (3, .ref aO), (4, .int x4)]) hx hb d_LW_law_729 hl (by decide) rfl (fun ls hl => ?_)
  refine lv_aload_n hx hb d_LW_law_731 rfl (lv_at hl 4 rfl) ?_
  refine lw_thrown (As := []) (rest := []) ⟨hx, hb, hml.trans hl.1.symm, hown, hts⟩ hE (c_MD_thrown l G am cI cZ τ' k g3) (cwV 0 hts (wg_V w_697 w_698 w_699 w_8 w_700) rfl rfl rfl (by decide +kernel) ⟨Nat.le_of_ble_eq_true rfl, Nat.le_of_ble_eq_true rfl⟩) hP rfl (Nat.le_of_ble_eq_true rfl) d_LW_law_732 ⟨hc, hs⟩ ?_
  refine lv_iload hx hb d_LW_law_735 (lv_at hl 1 rfl) ?_
  refine lv_icmp_eq (tgt := 742) hx hb d_LW_law_737 (by decide) (fun _ => ?_) (fun c8 => absurd rfl c8)
  refine lv_iload hx hb d_LW_law_742 (lv_at hl 1 rfl) ?_
  refine lv_if_ne (tgt := 766) hx hb d_LW_law_744 (by decide) (fun _ => ?_) (fun c7 => ?_)
  · refine lv_goto (tgt := 1484) hx hb d_LW_law_766 (by decide) ?_
    exact kk _ _ _ hP hS (lv_sub hl [2, 3, 4, 5, 6] rfl)
  · refine lv_aload_n hx hb d_LW_law_747 rfl (lv_at hl 5 rfl) ?_
    refine lv_iconst (v := 0) hx hb d_LW_law_748 (by decide) ?_
    refine va_lald (D := G) hx hb hE.2.2.1 (wL_h hP) 32 0 rfl rfl (inB_in (by decide)) d_LW_law_749 ?_
    refine lv_iload hx hb d_LW_law_750 (lv_at hl 0 rfl) ?_
    refine lv_if_eq (tgt := 759) hx hb d_LW_law_752 (by decide) (fun c6 => ?_) (fun c6 => ?_)
    · refine lv_lconst (v := 0) hx hb d_LW_law_759 (by decide) ?_
      refine W.lcmp hx hb d_LW_law_760 ?_
      refine lv_if_eq (tgt := 766) hx hb d_LW_law_761 (by decide) (fun _ => ?_) (fun c5 => absurd (by rw [g4 c7, if_pos c6]; exact lg_same _) c5)
      refine lv_goto (tgt := 1484) hx hb d_LW_law_766 (by decide) ?_
      exact kk _ _ _ hP hS (lv_sub hl [2, 3, 4, 5, 6] rfl)
    · refine lv_lconst (v := 1) hx hb d_LW_law_755 (by decide) ?_
      refine lv_goto (tgt := 760) hx hb d_LW_law_756 (by decide) ?_
      refine W.lcmp hx hb d_LW_law_760 ?_
      refine lv_if_eq (tgt := 766) hx hb d_LW_law_761 (by decide) (fun _ => ?_) (fun c5 => absurd (by rw [g4 c7, if_neg c6]; exact lg_same _) c5)
      refine lv_goto (tgt := 1484) hx hb d_LW_law_766 (by decide) ?_
      exact kk _ _ _ hP hS (lv_sub hl [2, 3, 4, 5, 6] rfl)
set_option maxHeartbeats 4000000 in
set_option maxRecDepth 100000 in
theorem lc_where {p : Program} {l : Launch} {e : Env} {s : State} {m : MethodId} {below : List Frame} {meth : Method} {c : Code} {b L : Nat} {xs : Nat → Int32} {G : va_G} {cI cZ cJ : ClassId} {ad : Nat → Nat} {aO : Nat} {am : Nat → Nat} (hfl : l.flags = pinnedFlags ++ [noTraceFlag]) (E : EL p s m meth c b L xs G cI cZ cJ ad aO am) {σ σ' τ τ' : Sg} {y y' : Nat → Int64} {i : Nat} {x4 : Int32} (ex : x4 = nI i) (hi : i + 6 ≤ L) {k b9 : Int32} (g1 : h_where σ y (xs (i + 1)) (xs (i + 2)) = some (k, y', σ')) (g2 : f_MD_where τ (xs (i + 1)) (xs (i + 2)) = some (b9, τ')) (g3 : f_MD_thrown τ' = some k) (g4 : k = 0 → y' (Int32.toNatClampNeg 0) = Int32.toInt64 b9) {H : Heap} {locs : List Loc} {cells slots : Nat} {ls : Array Slot} (hP : va_P G clX (wL ad cI cZ cJ aO am σ y τ) H) (hS : va_S (fun q : Nat => s.heap.size ≤ q) s.heap H locs) (hc : cells + 1 ≤ 1088) (hs : slots + 6 ≤ 14225) (hl : lv_has ls 7 [(0, .ref b), (1, .ref (ad 0)), (2, .ref (am 0)), (3, .ref aO), (4, .int x4)]) (kk : ∀ (H1 : Heap) (locs1 : List Loc) (ls1 : Array Slot), va_P G clX (wL ad cI cZ cJ aO am σ' y' τ') H1 → va_S (fun q : Nat => s.heap.size ≤ q) s.heap H1 locs1 → lv_has ls1 7 [(0, .ref b), (1, .ref (ad 0)), (2, .ref (am 0)), (3, .ref aO), (4, .int x4)] → W p l e room_1 s m #[Value.ref b] below meth c H1 locs1 (cells + 1) (slots + 6) (lw_Z below #[Value.ref b] s) (F0 m 1484 ls1 [])) : W p l e room_1 s m #[Value.ref b] below meth c H locs cells slots (lw_Z below #[Value.ref b] s) (F0 m 769 ls []) := by
  obtain ⟨hx, hb, hr, hml, hown, hts, hX, hbl, hlocks, hL, hE, hD⟩ := E
  have hbA : ¬ (fun q : Nat => s.heap.size ≤ q) b := Nat.not_le.mpr hbl
  refine lv_aload_n hx hb d_LW_law_769 rfl (lv_at hl 1 rfl) ?_
  refine lv_aload_n hx hb d_LW_law_770 rfl (lv_at hl 0 rfl) ?_
  refine lv_iload hx hb d_LW_law_771 (lv_at hl 4 rfl) ?_
  refine lv_iconst (v := nI 1) hx hb d_LW_law_773 (by decide) ?_
  refine lv_iadd hx hb d_LW_law_774 ?_
  refine va_sld hx hb hX hbl hbA hS (lw_ix (j := 1) (by omega) hL ex).1 d_LW_law_775 ?_
  refine W.eq (g2 := F0 m 776 ls [.int (xs (i + 1)), .ref (ad 0)]) (by rw [(lw_ix (j := 1) (show i + 1 < L by omega) hL ex).2]) ?_
  refine lv_aload_n hx hb d_LW_law_776 rfl (lv_at hl 0 rfl) ?_
  refine lv_iload hx hb d_LW_law_777 (lv_at hl 4 rfl) ?_
  refine lv_iconst (v := nI 2) hx hb d_LW_law_779 (by decide) ?_
  refine lv_iadd hx hb d_LW_law_780 ?_
  refine va_sld hx hb hX hbl hbA hS (lw_ix (j := 2) (by omega) hL ex).1 d_LW_law_781 ?_
  refine W.eq (g2 := F0 m 782 ls [.int (xs (i + 2)), .int (xs (i + 1)), .ref (ad 0)]) (by rw [(lw_ix (j := 2) (show i + 2 < L by omega) hL ex).2]) ?_
  refine lv_aload_n hx hb d_LW_law_782 rfl (lv_at hl 3 rfl) ?_
  refine lw_help (n := 4) (As := [.ref (ad 0), .int (xs (i + 1)), .int (xs (i + 2)), .ref aO]) (rest := []) ⟨hx, hb, hml.trans hl.1.symm, hown, hts⟩ hD hE (c_LW_where l hfl s.heap.size G ad cI cZ cJ aO hD.1 σ y (xs (i + 1)) (xs (i + 2)) (k, y', σ') g1) rfl rfl ⟨Nat.le_of_ble_eq_true rfl, Nat.le_of_ble_eq_true rfl⟩ w_475 w_0 w_473 w_474 (by decide +kernel) hP hS rfl (Nat.le_of_ble_eq_true rfl) d_LW_law_783 ⟨hc, hs⟩ (fun H locs hP hS => ?_)
  have hP : va_P G clX (wL ad cI cZ cJ aO am σ' y' τ) H := hP
  refine lv_istore (lv' := [(5, .int k), (0, .ref b), (1, .ref (ad 0)), (2, .ref (am 0)), (3, .ref aO), (4, .int x4)]) hx hb d_LW_law_786 hl (by decide) rfl (fun ls hl => ?_)
  refine lv_aload_n hx hb d_LW_law_788 rfl (lv_at hl 3 rfl) ?_
  refine lv_aload_n hx hb d_LW_law_789 rfl (lv_at hl 1 rfl) ?_
  refine lv_iload hx hb d_LW_law_790 (lv_at hl 5 rfl) ?_
  refine lv_iconst (v := nI 1) hx hb d_LW_law_792 (by decide) ?_
  refine lv_iadd hx hb d_LW_law_793 ?_
  refine va_sld hx hb hX hbl hbA hS (lw_ix (j := 1) (by omega) hL ex).1 d_LW_law_794 ?_
  refine W.eq (g2 := F0 m 795 ls [.int (xs (i + 1)), .ref (am 0)]) (by rw [(lw_ix (j := 1) (show i + 1 < L by omega) hL ex).2]) ?_
  refine lv_aload_n hx hb d_LW_law_795 rfl (lv_at hl 1 rfl) ?_
  refine lv_iload hx hb d_LW_law_796 (lv_at hl 5 rfl) ?_
  refine lv_iconst (v := nI 2) hx hb d_LW_law_798 (by decide) ?_
  refine lv_iadd hx hb d_LW_law_799 ?_
  refine va_sld hx hb hX hbl hbA hS (lw_ix (j := 2) (by omega) hL ex).1 d_LW_law_800 ?_
  refine W.eq (g2 := F0 m 801 ls [.int (xs (i + 2)), .int (xs (i + 1)), .ref (am 0)]) (by rw [(lw_ix (j := 2) (show i + 2 < L by omega) hL ex).2]) ?_
  refine lw_model (As := [.int (xs (i + 1)), .int (xs (i + 2))]) (rest := []) ⟨hx, hb, hml.trans hl.1.symm, hown, hts⟩ hD hE (c_MD_where l G am cI cZ hD.2.1 τ (xs (i + 1)) (xs (i + 2)) (b9, τ') g2) (cwV 2 hts (wg_V w_808 w_809 w_810 w_8 w_811) rfl rfl rfl (by decide +kernel) ⟨Nat.le_of_ble_eq_true rfl, Nat.le_of_ble_eq_true rfl⟩) hP hS rfl (Nat.le_of_ble_eq_true rfl) d_LW_law_801 ⟨hc, hs⟩ (fun H locs hP hS => ?_)
  have hP : va_P G clX (wL ad cI cZ cJ aO am σ' y' τ') H := hP
  refine lv_istore (lv' := [(6, .int b9), (5, .int k), (0, .ref b), (1, .ref (ad 0)), (2, .ref (am 0)), (3, .ref aO), (4, .int x4)]) hx hb d_LW_law_804 hl (by decide) rfl (fun ls hl => ?_)
  refine lv_aload_n hx hb d_LW_law_806 rfl (lv_at hl 4 rfl) ?_
  refine lw_thrown (As := []) (rest := []) ⟨hx, hb, hml.trans hl.1.symm, hown, hts⟩ hE (c_MD_thrown l G am cI cZ τ' k g3) (cwV 0 hts (wg_V w_697 w_698 w_699 w_8 w_700) rfl rfl rfl (by decide +kernel) ⟨Nat.le_of_ble_eq_true rfl, Nat.le_of_ble_eq_true rfl⟩) hP rfl (Nat.le_of_ble_eq_true rfl) d_LW_law_807 ⟨hc, hs⟩ ?_
  refine lv_iload hx hb d_LW_law_810 (lv_at hl 1 rfl) ?_
  refine lv_icmp_eq (tgt := 817) hx hb d_LW_law_812 (by decide) (fun _ => ?_) (fun c8 => absurd rfl c8)
  refine lv_iload hx hb d_LW_law_817 (lv_at hl 1 rfl) ?_
  refine lv_if_ne (tgt := 834) hx hb d_LW_law_819 (by decide) (fun _ => ?_) (fun c7 => ?_)
  · refine lv_goto (tgt := 1484) hx hb d_LW_law_834 (by decide) ?_
    exact kk _ _ _ hP hS (lv_sub hl [2, 3, 4, 5, 6] rfl)
  · refine lv_aload_n hx hb d_LW_law_822 rfl (lv_at hl 5 rfl) ?_
    refine lv_iconst (v := 0) hx hb d_LW_law_823 (by decide) ?_
    refine va_lald (D := G) hx hb hE.2.2.1 (wL_h hP) 32 0 rfl rfl (inB_in (by decide)) d_LW_law_824 ?_
    refine lv_iload hx hb d_LW_law_825 (lv_at hl 0 rfl) ?_
    refine lv_i2l (v := Int32.toInt64 b9) hx hb d_LW_law_827 rfl ?_
    refine W.lcmp hx hb d_LW_law_828 ?_
    refine lv_if_eq (tgt := 834) hx hb d_LW_law_829 (by decide) (fun _ => ?_) (fun c5 => absurd (by rw [g4 c7]; exact lg_same _) c5)
    refine lv_goto (tgt := 1484) hx hb d_LW_law_834 (by decide) ?_
    exact kk _ _ _ hP hS (lv_sub hl [2, 3, 4, 5, 6] rfl)
