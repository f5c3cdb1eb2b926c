abbrev wl_MD_face : List Cond := .code ⟨"PlaceMovesModel", "face", "(JJJJ)Z"⟩ prog_9_method_34_code 19 (some FieldType.boolean) :: WG
set_option maxHeartbeats 4000000 in
set_option maxRecDepth 100000 in
theorem c_MD_face (l : Launch) (G : va_G) (ad : Nat → Nat) (cI cZ : ClassId) (σ : Sg) (a0 : Int64) (a2 : Int64) (a4 : Int64) (a6 : Int64) (out : Int32) (h : f_MD_face σ a0 a2 a4 a6 = some out) : Met l ⟨"PlaceMovesModel", "face", "(JJJJ)Z"⟩ wl_MD_face ({ frames := 0, cells := 0, slots := 0, locals := 0 } : Room) (PcR G ad cI cZ σ [.long a0, .long a2, .long a4, .long a6]) (vp_Si (fun r => r = out)) 0 0 (fun _ => False) := by
  refine Met.ofW (cc := prog_9_method_34_code) (maxL := 19) (ret := (some FieldType.boolean)) (by decide) rfl ?_
  intro p e s m args below meth c s₁ B hml hv
  obtain ⟨rfl, hP, hK⟩ := hv
  have hx := B.exec
  have hb := B.bytes
  have hr := B.returns
  have hts0 := atoms_spec (ws := wl_MD_face) B.pre
  have hts : ∀ w ∈ WG, w.before _ s = true := fun w hw => hts0 w (List.mem_cons_of_mem _ hw)
  have hown : s.vm.findClass "PlaceMovesModel" = some m.cls := findClass_of_methodNamed B.named
  have hlocks := B.notSynchronized
  have C : CX "PlaceMovesModel" prog_9_method_34_code p s m _ c G cI cZ := ⟨hx, hb, hown, hts, hK⟩
  have hl := lv_entry ([.long a0, .long a2, .long a4, .long a6]) (n := 19) (Nat.le_of_ble_eq_true rfl)
  rw [lg_entry_eq]
  generalize (lg_sl ([.long a0, .long a2, .long a4, .long a6]) ++ List.replicate (19 - (lg_sl ([.long a0, .long a2, .long a4, .long a6])).length) Slot.unset).toArray = ls at hl ⊢
  have hl : lv_has ls 19 [(0, .long a0), (2, .long a2), (4, .long a4), (6, .long a6)] := hl
  unfold f_MD_face at h
  refine lv_lload_n hx hb d_MD_face_0 rfl (lv_at hl 0 rfl) ?_
  refine lv_lload_n hx hb d_MD_face_1 rfl (lv_at hl 1 rfl) ?_
  refine W.lcmp hx hb d_MD_face_2 ?_
  refine lv_if_le (tgt := 10) hx hb d_MD_face_3 (by decide) (fun c1 => ?_) (fun c1 => ?_)
  · rw [if_pos c1] at h
    refine lv_lload_n hx hb d_MD_face_10 rfl (lv_at hl 1 rfl) ?_
    refine lv_lstore (lv' := [(8, .long a2), (0, .long a0), (2, .long a2), (4, .long a4), (6, .long a6)]) hx hb d_MD_face_11 hl (by decide) rfl (fun ls hl => ?_)
    refine lv_lload_n hx hb d_MD_face_13 rfl (lv_at hl 1 rfl) ?_
    refine lv_lload_n hx hb d_MD_face_14 rfl (lv_at hl 2 rfl) ?_
    refine W.lcmp hx hb d_MD_face_15 ?_
    refine lv_if_le (tgt := 23) hx hb d_MD_face_16 (by decide) (fun c73 => ?_) (fun c73 => ?_)
    · rw [if_pos c73] at h
      refine lv_lload_n hx hb d_MD_face_23 rfl (lv_at hl 1 rfl) ?_
      have k24 : ∀ (x4 : Int64) (x6 : Int64) (x8 : Int64) (s0 : Int64) (h : C_MD_face_24 σ x4 x6 x8 s0 = some out) (ls : Array Slot) (hl : lv_has ls 19 [(4, .long x4), (6, .long x6), (8, .long x8)]), W p l e (headSpec wl_MD_face ({ frames := 0, cells := 0, slots := 0, locals := 0 } : Room)).room s m (([.long a0, .long a2, .long a4, .long a6] : List Value).toArray) below meth c s.heap [] 0 0 (MQ below (vp_Si (fun r => r = out)) (([.long a0, .long a2, .long a4, .long a6] : List Value).toArray) s 0 0 (fun _ => False)) (F0 m 24 ls [.long s0]) := by
        intro x4 x6 x8 s0 h ls hl
        unfold C_MD_face_24 at h
        refine lv_lstore (lv' := [(10, .long s0), (4, .long x4), (6, .long x6), (8, .long x8)]) hx hb d_MD_face_24 hl (by decide) rfl (fun ls hl => ?_)
        refine lv_lload hx hb d_MD_face_26 (lv_at hl 1 rfl) ?_
        refine lv_lload hx hb d_MD_face_28 (lv_at hl 2 rfl) ?_
        refine W.lcmp hx hb d_MD_face_30 ?_
        refine lv_if_le (tgt := 39) hx hb d_MD_face_31 (by decide) (fun c109 => ?_) (fun c109 => ?_)
        · rw [if_pos c109] at h
          refine lv_lload hx hb d_MD_face_39 (lv_at hl 2 rfl) ?_
          refine lv_lstore (lv' := [(12, .long x6), (10, .long s0), (4, .long x4), (6, .long x6), (8, .long x8)]) hx hb d_MD_face_41 hl (by decide) rfl (fun ls hl => ?_)
          refine lv_lload hx hb d_MD_face_43 (lv_at hl 2 rfl) ?_
          refine lv_lload hx hb d_MD_face_45 (lv_at hl 3 rfl) ?_
          refine W.lcmp hx hb d_MD_face_47 ?_
          refine lv_if_le (tgt := 56) hx hb d_MD_face_48 (by decide) (fun c127 => ?_) (fun c127 => ?_)
          · rw [if_pos c127] at h
            refine lv_lload hx hb d_MD_face_56 (lv_at hl 2 rfl) ?_
            have k58 : ∀ (x8 : Int64) (x10 : Int64) (x12 : Int64) (s0 : Int64) (h : C_MD_face_58 σ x8 x10 x12 s0 = some out) (ls : Array Slot) (hl : lv_has ls 19 [(8, .long x8), (10, .long x10), (12, .long x12)]), W p l e (headSpec wl_MD_face ({ frames := 0, cells := 0, slots := 0, locals := 0 } : Room)).room s m (([.long a0, .long a2, .long a4, .long a6] : List Value).toArray) below meth c s.heap [] 0 0 (MQ below (vp_Si (fun r => r = out)) (([.long a0, .long a2, .long a4, .long a6] : List Value).toArray) s 0 0 (fun _ => False)) (F0 m 58 ls [.long s0]) := by
              intro x8 x10 x12 s0 h ls hl
              unfold C_MD_face_58 at h
              refine lv_lstore (lv' := [(14, .long s0), (8, .long x8), (10, .long x10), (12, .long x12)]) hx hb d_MD_face_58 hl (by decide) rfl (fun ls hl => ?_)
              refine lv_lload hx hb d_MD_face_60 (lv_at hl 1 rfl) ?_
              refine lv_lload hx hb d_MD_face_62 (lv_at hl 1 rfl) ?_
              refine lv_lmul hx hb d_MD_face_64 ?_
              refine lv_lload hx hb d_MD_face_65 (lv_at hl 2 rfl) ?_
              refine lv_lload hx hb d_MD_face_67 (lv_at hl 2 rfl) ?_
              refine lv_lmul hx hb d_MD_face_69 ?_
              refine lv_lsub hx hb d_MD_face_70 ?_
              obtain ⟨y136, e_y136, h⟩ := lt1_some h
              refine W.eq (g2 := F0 m 71 ls (.long y136 :: [])) (by rw [e_y136]) ?_
              refine lv_lstore (lv' := [(16, .long y136), (14, .long s0), (8, .long x8), (10, .long x10), (12, .long x12)]) hx hb d_MD_face_71 hl (by decide) rfl (fun ls hl => ?_)
              refine lv_lload hx hb d_MD_face_73 (lv_at hl 4 rfl) ?_
              refine lv_lload hx hb d_MD_face_75 (lv_at hl 1 rfl) ?_
              refine lv_ladd hx hb d_MD_face_77 ?_
              refine lv_lload hx hb d_MD_face_78 (lv_at hl 4 rfl) ?_
              refine lv_lload hx hb d_MD_face_80 (lv_at hl 1 rfl) ?_
              refine lv_ladd hx hb d_MD_face_82 ?_
              refine lv_lmul hx hb d_MD_face_83 ?_
              refine lv_lload hx hb d_MD_face_84 (lv_at hl 2 rfl) ?_
              refine lv_lload hx hb d_MD_face_86 (lv_at hl 3 rfl) ?_
              refine lv_lsub hx hb d_MD_face_88 ?_
              refine lv_lmul hx hb d_MD_face_89 ?_
              refine lv_lload hx hb d_MD_face_90 (lv_at hl 2 rfl) ?_
              refine lv_lload hx hb d_MD_face_92 (lv_at hl 3 rfl) ?_
              refine lv_lsub hx hb d_MD_face_94 ?_
              refine lv_lmul hx hb d_MD_face_95 ?_
              refine lv_lload hx hb d_MD_face_96 (lv_at hl 4 rfl) ?_
              refine lv_lload hx hb d_MD_face_98 (lv_at hl 1 rfl) ?_
              refine lv_lsub hx hb d_MD_face_100 ?_
              refine lv_lload hx hb d_MD_face_101 (lv_at hl 4 rfl) ?_
              refine lv_lload hx hb d_MD_face_103 (lv_at hl 1 rfl) ?_
              refine lv_lsub hx hb d_MD_face_105 ?_
              refine lv_lmul hx hb d_MD_face_106 ?_
              refine lv_lload hx hb d_MD_face_107 (lv_at hl 2 rfl) ?_
              refine lv_lload hx hb d_MD_face_109 (lv_at hl 3 rfl) ?_
              refine lv_ladd hx hb d_MD_face_111 ?_
              refine lv_lmul hx hb d_MD_face_112 ?_
              refine lv_lload hx hb d_MD_face_113 (lv_at hl 2 rfl) ?_
              refine lv_lload hx hb d_MD_face_115 (lv_at hl 3 rfl) ?_
              refine lv_ladd hx hb d_MD_face_117 ?_
              refine lv_lmul hx hb d_MD_face_118 ?_
              refine lv_ladd hx hb d_MD_face_119 ?_
              refine lv_ldc2 (v := 2) hx hb hown (hts _ w_835) d_MD_face_120 ?_
              refine lv_lload hx hb d_MD_face_123 (lv_at hl 0 rfl) ?_
              refine lv_lmul hx hb d_MD_face_125 ?_
              refine lv_lload hx hb d_MD_face_126 (lv_at hl 0 rfl) ?_
              refine lv_lmul hx hb d_MD_face_128 ?_
              refine W.lcmp hx hb d_MD_face_129 ?_
              refine lv_if_lt (tgt := 137) hx hb d_MD_face_130 (by decide) (fun c137 => ?_) (fun c137 => ?_)
              · rw [if_pos c137] at h
                refine lv_iconst (v := 0) hx hb d_MD_face_137 (by decide) ?_
                have k138 : ∀ (x8 : Int64) (x10 : Int64) (x12 : Int64) (x14 : Int64) (s0 : Int32) (h : C_MD_face_138 σ x8 x10 x12 x14 s0 = some out) (ls : Array Slot) (hl : lv_has ls 19 [(8, .long x8), (10, .long x10), (12, .long x12), (14, .long x14)]), W p l e (headSpec wl_MD_face ({ frames := 0, cells := 0, slots := 0, locals := 0 } : Room)).room s m (([.long a0, .long a2, .long a4, .long a6] : List Value).toArray) below meth c s.heap [] 0 0 (MQ below (vp_Si (fun r => r = out)) (([.long a0, .long a2, .long a4, .long a6] : List Value).toArray) s 0 0 (fun _ => False)) (F0 m 138 ls [.int s0]) := by
                  intro x8 x10 x12 x14 s0 h ls hl
                  unfold C_MD_face_138 at h
                  refine lv_istore (lv' := [(18, .int s0), (8, .long x8), (10, .long x10), (12, .long x12), (14, .long x14)]) hx hb d_MD_face_138 hl (by decide) rfl (fun ls hl => ?_)
                  refine lv_lload hx hb d_MD_face_140 (lv_at hl 2 rfl) ?_
                  refine lv_lload hx hb d_MD_face_142 (lv_at hl 4 rfl) ?_
                  refine W.lcmp hx hb d_MD_face_144 ?_
                  refine lv_if_gt (tgt := 165) hx hb d_MD_face_145 (by decide) (fun c141 => ?_) (fun c141 => ?_)
                  · rw [if_pos c141] at h
                    refine lv_iconst (v := 0) hx hb d_MD_face_165 (by decide) ?_
                    exact W.zret hx hb hr rfl (fun t ht _ => ⟨_, rfl, Option.some.inj h, ht⟩) (fun _ hq => nomatch hq) d_MD_face_166
                  · rw [if_neg c141] at h
                    refine lv_lload hx hb d_MD_face_148 (lv_at hl 1 rfl) ?_
                    refine lv_lload hx hb d_MD_face_150 (lv_at hl 3 rfl) ?_
                    refine W.lcmp hx hb d_MD_face_152 ?_
                    refine lv_if_le (tgt := 161) hx hb d_MD_face_153 (by decide) (fun c142 => ?_) (fun c142 => ?_)
                    · rw [if_pos c142] at h
                      refine lv_iconst (v := 1) hx hb d_MD_face_161 (by decide) ?_
                      refine lv_goto (tgt := 166) hx hb d_MD_face_162 (by decide) ?_
                      exact W.zret hx hb hr rfl (fun t ht _ => ⟨_, rfl, Option.some.inj h, ht⟩) (fun _ hq => nomatch hq) d_MD_face_166
                    · rw [if_neg c142] at h
                      refine lv_iload hx hb d_MD_face_156 (lv_at hl 0 rfl) ?_
                      refine lv_if_eq (tgt := 165) hx hb d_MD_face_158 (by decide) (fun c143 => ?_) (fun c143 => ?_)
                      · rw [if_pos c143] at h
                        refine lv_iconst (v := 0) hx hb d_MD_face_165 (by decide) ?_
                        exact W.zret hx hb hr rfl (fun t ht _ => ⟨_, rfl, Option.some.inj h, ht⟩) (fun _ hq => nomatch hq) d_MD_face_166
                      · rw [if_neg c143] at h
                        refine lv_iconst (v := 1) hx hb d_MD_face_161 (by decide) ?_
                        refine lv_goto (tgt := 166) hx hb d_MD_face_162 (by decide) ?_
                        exact W.zret hx hb hr rfl (fun t ht _ => ⟨_, rfl, Option.some.inj h, ht⟩) (fun _ hq => nomatch hq) d_MD_face_166
                exact k138 x8 x10 x12 s0 0 h _ (lv_sub hl [2, 3, 4, 1] rfl)
              · rw [if_neg c137] at h
                refine lv_iconst (v := 1) hx hb d_MD_face_133 (by decide) ?_
                refine lv_goto (tgt := 138) hx hb d_MD_face_134 (by decide) ?_
                have k138 : ∀ (x8 : Int64) (x10 : Int64) (x12 : Int64) (x14 : Int64) (s0 : Int32) (h : C_MD_face_138 σ x8 x10 x12 x14 s0 = some out) (ls : Array Slot) (hl : lv_has ls 19 [(8, .long x8), (10, .long x10), (12, .long x12), (14, .long x14)]), W p l e (headSpec wl_MD_face ({ frames := 0, cells := 0, slots := 0, locals := 0 } : Room)).room s m (([.long a0, .long a2, .long a4, .long a6] : List Value).toArray) below meth c s.heap [] 0 0 (MQ below (vp_Si (fun r => r = out)) (([.long a0, .long a2, .long a4, .long a6] : List Value).toArray) s 0 0 (fun _ => False)) (F0 m 138 ls [.int s0]) := by
                  intro x8 x10 x12 x14 s0 h ls hl
                  unfold C_MD_face_138 at h
                  refine lv_istore (lv' := [(18, .int s0), (8, .long x8), (10, .long x10), (12, .long x12), (14, .long x14)]) hx hb d_MD_face_138 hl (by decide) rfl (fun ls hl => ?_)
                  refine lv_lload hx hb d_MD_face_140 (lv_at hl 2 rfl) ?_
                  refine lv_lload hx hb d_MD_face_142 (lv_at hl 4 rfl) ?_
                  refine W.lcmp hx hb d_MD_face_144 ?_
                  refine lv_if_gt (tgt := 165) hx hb d_MD_face_145 (by decide) (fun c138 => ?_) (fun c138 => ?_)
                  · rw [if_pos c138] at h
                    refine lv_iconst (v := 0) hx hb d_MD_face_165 (by decide) ?_
                    exact W.zret hx hb hr rfl (fun t ht _ => ⟨_, rfl, Option.some.inj h, ht⟩) (fun _ hq => nomatch hq) d_MD_face_166
                  · rw [if_neg c138] at h
                    refine lv_lload hx hb d_MD_face_148 (lv_at hl 1 rfl) ?_
                    refine lv_lload hx hb d_MD_face_150 (lv_at hl 3 rfl) ?_
                    refine W.lcmp hx hb d_MD_face_152 ?_
                    refine lv_if_le (tgt := 161) hx hb d_MD_face_153 (by decide) (fun c139 => ?_) (fun c139 => ?_)
                    · rw [if_pos c139] at h
                      refine lv_iconst (v := 1) hx hb d_MD_face_161 (by decide) ?_
                      refine lv_goto (tgt := 166) hx hb d_MD_face_162 (by decide) ?_
                      exact W.zret hx hb hr rfl (fun t ht _ => ⟨_, rfl, Option.some.inj h, ht⟩) (fun _ hq => nomatch hq) d_MD_face_166
                    · rw [if_neg c139] at h
                      refine lv_iload hx hb d_MD_face_156 (lv_at hl 0 rfl) ?_
                      refine lv_if_eq (tgt := 165) hx hb d_MD_face_158 (by decide) (fun c140 => ?_) (fun c140 => ?_)
                      · rw [if_pos c140] at h
                        refine lv_iconst (v := 0) hx hb d_MD_face_165 (by decide) ?_
                        exact W.zret hx hb hr rfl (fun t ht _ => ⟨_, rfl, Option.some.inj h, ht⟩) (fun _ hq => nomatch hq) d_MD_face_166
                      · rw [if_neg c140] at h
                        refine lv_iconst (v := 1) hx hb d_MD_face_161 (by decide) ?_
                        refine lv_goto (tgt := 166) hx hb d_MD_face_162 (by decide) ?_
                        exact W.zret hx hb hr rfl (fun t ht _ => ⟨_, rfl, Option.some.inj h, ht⟩) (fun _ hq => nomatch hq) d_MD_face_166
                exact k138 x8 x10 x12 s0 1 h _ (lv_sub hl [2, 3, 4, 1] rfl)
            exact k58 x8 s0 x6 x4 h _ (lv_sub hl [4, 1, 0] rfl)
          · rw [if_neg c127] at h
            refine lv_lload hx hb d_MD_face_51 (lv_at hl 3 rfl) ?_
            refine lv_goto (tgt := 58) hx hb d_MD_face_53 (by decide) ?_
            have k58 : ∀ (x8 : Int64) (x10 : Int64) (x12 : Int64) (s0 : Int64) (h : C_MD_face_58 σ x8 x10 x12 s0 = some out) (ls : Array Slot) (hl : lv_has ls 19 [(8, .long x8), (10, .long x10), (12, .long x12)]), W p l e (headSpec wl_MD_face ({ frames := 0, cells := 0, slots := 0, locals := 0 } : Room)).room s m (([.long a0, .long a2, .long a4, .long a6] : List Value).toArray) below meth c s.heap [] 0 0 (MQ below (vp_Si (fun r => r = out)) (([.long a0, .long a2, .long a4, .long a6] : List Value).toArray) s 0 0 (fun _ => False)) (F0 m 58 ls [.long s0]) := by
              intro x8 x10 x12 s0 h ls hl
              unfold C_MD_face_58 at h
              refine lv_lstore (lv' := [(14, .long s0), (8, .long x8), (10, .long x10), (12, .long x12)]) hx hb d_MD_face_58 hl (by decide) rfl (fun ls hl => ?_)
              refine lv_lload hx hb d_MD_face_60 (lv_at hl 1 rfl) ?_
              refine lv_lload hx hb d_MD_face_62 (lv_at hl 1 rfl) ?_
              refine lv_lmul hx hb d_MD_face_64 ?_
              refine lv_lload hx hb d_MD_face_65 (lv_at hl 2 rfl) ?_
              refine lv_lload hx hb d_MD_face_67 (lv_at hl 2 rfl) ?_
              refine lv_lmul hx hb d_MD_face_69 ?_
              refine lv_lsub hx hb d_MD_face_70 ?_
              obtain ⟨y128, e_y128, h⟩ := lt1_some h
              refine W.eq (g2 := F0 m 71 ls (.long y128 :: [])) (by rw [e_y128]) ?_
              refine lv_lstore (lv' := [(16, .long y128), (14, .long s0), (8, .long x8), (10, .long x10), (12, .long x12)]) hx hb d_MD_face_71 hl (by decide) rfl (fun ls hl => ?_)
              refine lv_lload hx hb d_MD_face_73 (lv_at hl 4 rfl) ?_
              refine lv_lload hx hb d_MD_face_75 (lv_at hl 1 rfl) ?_
              refine lv_ladd hx hb d_MD_face_77 ?_
              refine lv_lload hx hb d_MD_face_78 (lv_at hl 4 rfl) ?_
              refine lv_lload hx hb d_MD_face_80 (lv_at hl 1 rfl) ?_
              refine lv_ladd hx hb d_MD_face_82 ?_
              refine lv_lmul hx hb d_MD_face_83 ?_
              refine lv_lload hx hb d_MD_face_84 (lv_at hl 2 rfl) ?_
              refine lv_lload hx hb d_MD_face_86 (lv_at hl 3 rfl) ?_
              refine lv_lsub hx hb d_MD_face_88 ?_
              refine lv_lmul hx hb d_MD_face_89 ?_
              refine lv_lload hx hb d_MD_face_90 (lv_at hl 2 rfl) ?_
              refine lv_lload hx hb d_MD_face_92 (lv_at hl 3 rfl) ?_
              refine lv_lsub hx hb d_MD_face_94 ?_
              refine lv_lmul hx hb d_MD_face_95 ?_
              refine lv_lload hx hb d_MD_face_96 (lv_at hl 4 rfl) ?_
              refine lv_lload hx hb d_MD_face_98 (lv_at hl 1 rfl) ?_
              refine lv_lsub hx hb d_MD_face_100 ?_
              refine lv_lload hx hb d_MD_face_101 (lv_at hl 4 rfl) ?_
              refine lv_lload hx hb d_MD_face_103 (lv_at hl 1 rfl) ?_
              refine lv_lsub hx hb d_MD_face_105 ?_
              refine lv_lmul hx hb d_MD_face_106 ?_
              refine lv_lload hx hb d_MD_face_107 (lv_at hl 2 rfl) ?_
              refine lv_lload hx hb d_MD_face_109 (lv_at hl 3 rfl) ?_
              refine lv_ladd hx hb d_MD_face_111 ?_
              refine lv_lmul hx hb d_MD_face_112 ?_
              refine lv_lload hx hb d_MD_face_113 (lv_at hl 2 rfl) ?_
              refine lv_lload hx hb d_MD_face_115 (lv_at hl 3 rfl) ?_
              refine lv_ladd hx hb d_MD_face_117 ?_
              refine lv_lmul hx hb d_MD_face_118 ?_
              refine lv_ladd hx hb d_MD_face_119 ?_
              refine lv_ldc2 (v := 2) hx hb hown (hts _ w_835) d_MD_face_120 ?_
              refine lv_lload hx hb d_MD_face_123 (lv_at hl 0 rfl) ?_
              refine lv_lmul hx hb d_MD_face_125 ?_
              refine lv_lload hx hb d_MD_face_126 (lv_at hl 0 rfl) ?_
              refine lv_lmul hx hb d_MD_face_128 ?_
              refine W.lcmp hx hb d_MD_face_129 ?_
              refine lv_if_lt (tgt := 137) hx hb d_MD_face_130 (by decide) (fun c129 => ?_) (fun c129 => ?_)
              · rw [if_pos c129] at h
                refine lv_iconst (v := 0) hx hb d_MD_face_137 (by decide) ?_
                have k138 : ∀ (x8 : Int64) (x10 : Int64) (x12 : Int64) (x14 : Int64) (s0 : Int32) (h : C_MD_face_138 σ x8 x10 x12 x14 s0 = some out) (ls : Array Slot) (hl : lv_has ls 19 [(8, .long x8), (10, .long x10), (12, .long x12), (14, .long x14)]), W p l e (headSpec wl_MD_face ({ frames := 0, cells := 0, slots := 0, locals := 0 } : Room)).room s m (([.long a0, .long a2, .long a4, .long a6] : List Value).toArray) below meth c s.heap [] 0 0 (MQ below (vp_Si (fun r => r = out)) (([.long a0, .long a2, .long a4, .long a6] : List Value).toArray) s 0 0 (fun _ => False)) (F0 m 138 ls [.int s0]) := by
                  intro x8 x10 x12 x14 s0 h ls hl
                  unfold C_MD_face_138 at h
                  refine lv_istore (lv' := [(18, .int s0), (8, .long x8), (10, .long x10), (12, .long x12), (14, .long x14)]) hx hb d_MD_face_138 hl (by decide) rfl (fun ls hl => ?_)
                  refine lv_lload hx hb d_MD_face_140 (lv_at hl 2 rfl) ?_
                  refine lv_lload hx hb d_MD_face_142 (lv_at hl 4 rfl) ?_
                  refine W.lcmp hx hb d_MD_face_144 ?_
                  refine lv_if_gt (tgt := 165) hx hb d_MD_face_145 (by decide) (fun c133 => ?_) (fun c133 => ?_)
                  · rw [if_pos c133] at h
                    refine lv_iconst (v := 0) hx hb d_MD_face_165 (by decide) ?_
                    exact W.zret hx hb hr rfl (fun t ht _ => ⟨_, rfl, Option.some.inj h, ht⟩) (fun _ hq => nomatch hq) d_MD_face_166
                  · rw [if_neg c133] at h
                    refine lv_lload hx hb d_MD_face_148 (lv_at hl 1 rfl) ?_
                    refine lv_lload hx hb d_MD_face_150 (lv_at hl 3 rfl) ?_
                    refine W.lcmp hx hb d_MD_face_152 ?_
                    refine lv_if_le (tgt := 161) hx hb d_MD_face_153 (by decide) (fun c134 => ?_) (fun c134 => ?_)
                    · rw [if_pos c134] at h
                      refine lv_iconst (v := 1) hx hb d_MD_face_161 (by decide) ?_
                      refine lv_goto (tgt := 166) hx hb d_MD_face_162 (by decide) ?_
                      exact W.zret hx hb hr rfl (fun t ht _ => ⟨_, rfl, Option.some.inj h, ht⟩) (fun _ hq => nomatch hq) d_MD_face_166
                    · rw [if_neg c134] at h
                      refine lv_iload hx hb d_MD_face_156 (lv_at hl 0 rfl) ?_
                      refine lv_if_eq (tgt := 165) hx hb d_MD_face_158 (by decide) (fun c135 => ?_) (fun c135 => ?_)
                      · rw [if_pos c135] at h
                        refine lv_iconst (v := 0) hx hb d_MD_face_165 (by decide) ?_
                        exact W.zret hx hb hr rfl (fun t ht _ => ⟨_, rfl, Option.some.inj h, ht⟩) (fun _ hq => nomatch hq) d_MD_face_166
                      · rw [if_neg c135] at h
                        refine lv_iconst (v := 1) hx hb d_MD_face_161 (by decide) ?_
                        refine lv_goto (tgt := 166) hx hb d_MD_face_162 (by decide) ?_
                        exact W.zret hx hb hr rfl (fun t ht _ => ⟨_, rfl, Option.some.inj h, ht⟩) (fun _ hq => nomatch hq) d_MD_face_166
                exact k138 x8 x10 x12 s0 0 h _ (lv_sub hl [2, 3, 4, 1] rfl)
              · rw [if_neg c129] at h
                refine lv_iconst (v := 1) hx hb d_MD_face_133 (by decide) ?_
                refine lv_goto (tgt := 138) hx hb d_MD_face_134 (by decide) ?_
                have k138 : ∀ (x8 : Int64) (x10 : Int64) (x12 : Int64) (x14 : Int64) (s0 : Int32) (h : C_MD_face_138 σ x8 x10 x12 x14 s0 = some out) (ls : Array Slot) (hl : lv_has ls 19 [(8, .long x8), (10, .long x10), (12, .long x12), (14, .long x14)]), W p l e (headSpec wl_MD_face ({ frames := 0, cells := 0, slots := 0, locals := 0 } : Room)).room s m (([.long a0, .long a2, .long a4, .long a6] : List Value).toArray) below meth c s.heap [] 0 0 (MQ below (vp_Si (fun r => r = out)) (([.long a0, .long a2, .long a4, .long a6] : List Value).toArray) s 0 0 (fun _ => False)) (F0 m 138 ls [.int s0]) := by
                  intro x8 x10 x12 x14 s0 h ls hl
                  unfold C_MD_face_138 at h
                  refine lv_istore (lv' := [(18, .int s0), (8, .long x8), (10, .long x10), (12, .long x12), (14, .long x14)]) hx hb d_MD_face_138 hl (by decide) rfl (fun ls hl => ?_)
                  refine lv_lload hx hb d_MD_face_140 (lv_at hl 2 rfl) ?_
                  refine lv_lload hx hb d_MD_face_142 (lv_at hl 4 rfl) ?_
                  refine W.lcmp hx hb d_MD_face_144 ?_
                  refine lv_if_gt (tgt := 165) hx hb d_MD_face_145 (by decide) (fun c130 => ?_) (fun c130 => ?_)
                  · rw [if_pos c130] at h
                    refine lv_iconst (v := 0) hx hb d_MD_face_165 (by decide) ?_
                    exact W.zret hx hb hr rfl (fun t ht _ => ⟨_, rfl, Option.some.inj h, ht⟩) (fun _ hq => nomatch hq) d_MD_face_166
                  · rw [if_neg c130] at h
                    refine lv_lload hx hb d_MD_face_148 (lv_at hl 1 rfl) ?_
                    refine lv_lload hx hb d_MD_face_150 (lv_at hl 3 rfl) ?_
                    refine W.lcmp hx hb d_MD_face_152 ?_
                    refine lv_if_le (tgt := 161) hx hb d_MD_face_153 (by decide) (fun c131 => ?_) (fun c131 => ?_)
                    · rw [if_pos c131] at h
                      refine lv_iconst (v := 1) hx hb d_MD_face_161 (by decide) ?_
                      refine lv_goto (tgt := 166) hx hb d_MD_face_162 (by decide) ?_
                      exact W.zret hx hb hr rfl (fun t ht _ => ⟨_, rfl, Option.some.inj h, ht⟩) (fun _ hq => nomatch hq) d_MD_face_166
                    · rw [if_neg c131] at h
                      refine lv_iload hx hb d_MD_face_156 (lv_at hl 0 rfl) ?_
                      refine lv_if_eq (tgt := 165) hx hb d_MD_face_158 (by decide) (fun c132 => ?_) (fun c132 => ?_)
                      · rw [if_pos c132] at h
                        refine lv_iconst (v := 0) hx hb d_MD_face_165 (by decide) ?_
                        exact W.zret hx hb hr rfl (fun t ht _ => ⟨_, rfl, Option.some.inj h, ht⟩) (fun _ hq => nomatch hq) d_MD_face_166
                      · rw [if_neg c132] at h
                        refine lv_iconst (v := 1) hx hb d_MD_face_161 (by decide) ?_
                        refine lv_goto (tgt := 166) hx hb d_MD_face_162 (by decide) ?_
                        exact W.zret hx hb hr rfl (fun t ht _ => ⟨_, rfl, Option.some.inj h, ht⟩) (fun _ hq => nomatch hq) d_MD_face_166
                exact k138 x8 x10 x12 s0 1 h _ (lv_sub hl [2, 3, 4, 1] rfl)
            exact k58 x8 s0 x6 x6 h _ (lv_sub hl [4, 1, 0] rfl)
        · rw [if_neg c109] at h
          refine lv_lload hx hb d_MD_face_34 (lv_at hl 1 rfl) ?_
          refine lv_goto (tgt := 41) hx hb d_MD_face_36 (by decide) ?_
          refine lv_lstore (lv' := [(12, .long x4), (10, .long s0), (4, .long x4), (6, .long x6), (8, .long x8)]) hx hb d_MD_face_41 hl (by decide) rfl (fun ls hl => ?_)
          refine lv_lload hx hb d_MD_face_43 (lv_at hl 2 rfl) ?_
          refine lv_lload hx hb d_MD_face_45 (lv_at hl 3 rfl) ?_
          refine W.lcmp hx hb d_MD_face_47 ?_
          refine lv_if_le (tgt := 56) hx hb d_MD_face_48 (by decide) (fun c110 => ?_) (fun c110 => ?_)
          · rw [if_pos c110] at h
            refine lv_lload hx hb d_MD_face_56 (lv_at hl 2 rfl) ?_
            have k58 : ∀ (x8 : Int64) (x10 : Int64) (x12 : Int64) (s0 : Int64) (h : C_MD_face_58 σ x8 x10 x12 s0 = some out) (ls : Array Slot) (hl : lv_has ls 19 [(8, .long x8), (10, .long x10), (12, .long x12)]), W p l e (headSpec wl_MD_face ({ frames := 0, cells := 0, slots := 0, locals := 0 } : Room)).room s m (([.long a0, .long a2, .long a4, .long a6] : List Value).toArray) below meth c s.heap [] 0 0 (MQ below (vp_Si (fun r => r = out)) (([.long a0, .long a2, .long a4, .long a6] : List Value).toArray) s 0 0 (fun _ => False)) (F0 m 58 ls [.long s0]) := by
              intro x8 x10 x12 s0 h ls hl
              unfold C_MD_face_58 at h
              refine lv_lstore (lv' := [(14, .long s0), (8, .long x8), (10, .long x10), (12, .long x12)]) hx hb d_MD_face_58 hl (by decide) rfl (fun ls hl => ?_)
              refine lv_lload hx hb d_MD_face_60 (lv_at hl 1 rfl) ?_
              refine lv_lload hx hb d_MD_face_62 (lv_at hl 1 rfl) ?_
              refine lv_lmul hx hb d_MD_face_64 ?_
              refine lv_lload hx hb d_MD_face_65 (lv_at hl 2 rfl) ?_
              refine lv_lload hx hb d_MD_face_67 (lv_at hl 2 rfl) ?_
              refine lv_lmul hx hb d_MD_face_69 ?_
              refine lv_lsub hx hb d_MD_face_70 ?_
              obtain ⟨y119, e_y119, h⟩ := lt1_some h
              refine W.eq (g2 := F0 m 71 ls (.long y119 :: [])) (by rw [e_y119]) ?_
              refine lv_lstore (lv' := [(16, .long y119), (14, .long s0), (8, .long x8), (10, .long x10), (12, .long x12)]) hx hb d_MD_face_71 hl (by decide) rfl (fun ls hl => ?_)
              refine lv_lload hx hb d_MD_face_73 (lv_at hl 4 rfl) ?_
              refine lv_lload hx hb d_MD_face_75 (lv_at hl 1 rfl) ?_
              refine lv_ladd hx hb d_MD_face_77 ?_
              refine lv_lload hx hb d_MD_face_78 (lv_at hl 4 rfl) ?_
              refine lv_lload hx hb d_MD_face_80 (lv_at hl 1 rfl) ?_
              refine lv_ladd hx hb d_MD_face_82 ?_
              refine lv_lmul hx hb d_MD_face_83 ?_
              refine lv_lload hx hb d_MD_face_84 (lv_at hl 2 rfl) ?_
              refine lv_lload hx hb d_MD_face_86 (lv_at hl 3 rfl) ?_
              refine lv_lsub hx hb d_MD_face_88 ?_
              refine lv_lmul hx hb d_MD_face_89 ?_
              refine lv_lload hx hb d_MD_face_90 (lv_at hl 2 rfl) ?_
              refine lv_lload hx hb d_MD_face_92 (lv_at hl 3 rfl) ?_
              refine lv_lsub hx hb d_MD_face_94 ?_
              refine lv_lmul hx hb d_MD_face_95 ?_
              refine lv_lload hx hb d_MD_face_96 (lv_at hl 4 rfl) ?_
              refine lv_lload hx hb d_MD_face_98 (lv_at hl 1 rfl) ?_
              refine lv_lsub hx hb d_MD_face_100 ?_
              refine lv_lload hx hb d_MD_face_101 (lv_at hl 4 rfl) ?_
              refine lv_lload hx hb d_MD_face_103 (lv_at hl 1 rfl) ?_
              refine lv_lsub hx hb d_MD_face_105 ?_
              refine lv_lmul hx hb d_MD_face_106 ?_
              refine lv_lload hx hb d_MD_face_107 (lv_at hl 2 rfl) ?_
              refine lv_lload hx hb d_MD_face_109 (lv_at hl 3 rfl) ?_
              refine lv_ladd hx hb d_MD_face_111 ?_
              refine lv_lmul hx hb d_MD_face_112 ?_
              refine lv_lload hx hb d_MD_face_113 (lv_at hl 2 rfl) ?_
              refine lv_lload hx hb d_MD_face_115 (lv_at hl 3 rfl) ?_
              refine lv_ladd hx hb d_MD_face_117 ?_
              refine lv_lmul hx hb d_MD_face_118 ?_
              refine lv_ladd hx hb d_MD_face_119 ?_
              refine lv_ldc2 (v := 2) hx hb hown (hts _ w_835) d_MD_face_120 ?_
              refine lv_lload hx hb d_MD_face_123 (lv_at hl 0 rfl) ?_
              refine lv_lmul hx hb d_MD_face_125 ?_
              refine lv_lload hx hb d_MD_face_126 (lv_at hl 0 rfl) ?_
              refine lv_lmul hx hb d_MD_face_128 ?_
              refine W.lcmp hx hb d_MD_face_129 ?_
              refine lv_if_lt (tgt := 137) hx hb d_MD_face_130 (by decide) (fun c120 => ?_) (fun c120 => ?_)
              · rw [if_pos c120] at h
                refine lv_iconst (v := 0) hx hb d_MD_face_137 (by decide) ?_
                have k138 : ∀ (x8 : Int64) (x10 : Int64) (x12 : Int64) (x14 : Int64) (s0 : Int32) (h : C_MD_face_138 σ x8 x10 x12 x14 s0 = some out) (ls : Array Slot) (hl : lv_has ls 19 [(8, .long x8), (10, .long x10), (12, .long x12), (14, .long x14)]), W p l e (headSpec wl_MD_face ({ frames := 0, cells := 0, slots := 0, locals := 0 } : Room)).room s m (([.long a0, .long a2, .long a4, .long a6] : List Value).toArray) below meth c s.heap [] 0 0 (MQ below (vp_Si (fun r => r = out)) (([.long a0, .long a2, .long a4, .long a6] : List Value).toArray) s 0 0 (fun _ => False)) (F0 m 138 ls [.int s0]) := by
                  intro x8 x10 x12 x14 s0 h ls hl
                  unfold C_MD_face_138 at h
                  refine lv_istore (lv' := [(18, .int s0), (8, .long x8), (10, .long x10), (12, .long x12), (14, .long x14)]) hx hb d_MD_face_138 hl (by decide) rfl (fun ls hl => ?_)
                  refine lv_lload hx hb d_MD_face_140 (lv_at hl 2 rfl) ?_
                  refine lv_lload hx hb d_MD_face_142 (lv_at hl 4 rfl) ?_
                  refine W.lcmp hx hb d_MD_face_144 ?_
                  refine lv_if_gt (tgt := 165) hx hb d_MD_face_145 (by decide) (fun c124 => ?_) (fun c124 => ?_)
                  · rw [if_pos c124] at h
                    refine lv_iconst (v := 0) hx hb d_MD_face_165 (by decide) ?_
                    exact W.zret hx hb hr rfl (fun t ht _ => ⟨_, rfl, Option.some.inj h, ht⟩) (fun _ hq => nomatch hq) d_MD_face_166
                  · rw [if_neg c124] at h
                    refine lv_lload hx hb d_MD_face_148 (lv_at hl 1 rfl) ?_
                    refine lv_lload hx hb d_MD_face_150 (lv_at hl 3 rfl) ?_
                    refine W.lcmp hx hb d_MD_face_152 ?_
                    refine lv_if_le (tgt := 161) hx hb d_MD_face_153 (by decide) (fun c125 => ?_) (fun c125 => ?_)
                    · rw [if_pos c125] at h
                      refine lv_iconst (v := 1) hx hb d_MD_face_161 (by decide) ?_
                      refine lv_goto (tgt := 166) hx hb d_MD_face_162 (by decide) ?_
                      exact W.zret hx hb hr rfl (fun t ht _ => ⟨_, rfl, Option.some.inj h, ht⟩) (fun _ hq => nomatch hq) d_MD_face_166
                    · rw [if_neg c125] at h
                      refine lv_iload hx hb d_MD_face_156 (lv_at hl 0 rfl) ?_
                      refine lv_if_eq (tgt := 165) hx hb d_MD_face_158 (by decide) (fun c126 => ?_) (fun c126 => ?_)
                      · rw [if_pos c126] at h
                        refine lv_iconst (v := 0) hx hb d_MD_face_165 (by decide) ?_
                        exact W.zret hx hb hr rfl (fun t ht _ => ⟨_, rfl, Option.some.inj h, ht⟩) (fun _ hq => nomatch hq) d_MD_face_166
                      · rw [if_neg c126] at h
                        refine lv_iconst (v := 1) hx hb d_MD_face_161 (by decide) ?_
                        refine lv_goto (tgt := 166) hx hb d_MD_face_162 (by decide) ?_
                        exact W.zret hx hb hr rfl (fun t ht _ => ⟨_, rfl, Option.some.inj h, ht⟩) (fun _ hq => nomatch hq) d_MD_face_166
                exact k138 x8 x10 x12 s0 0 h _ (lv_sub hl [2, 3, 4, 1] rfl)
              · rw [if_neg c120] at h
                refine lv_iconst (v := 1) hx hb d_MD_face_133 (by decide) ?_
                refine lv_goto (tgt := 138) hx hb d_MD_face_134 (by decide) ?_
                have k138 : ∀ (x8 : Int64) (x10 : Int64) (x12 : Int64) (x14 : Int64) (s0 : Int32) (h : C_MD_face_138 σ x8 x10 x12 x14 s0 = some out) (ls : Array Slot) (hl : lv_has ls 19 [(8, .long x8), (10, .long x10), (12, .long x12), (14, .long x14)]), W p l e (headSpec wl_MD_face ({ frames := 0, cells := 0, slots := 0, locals := 0 } : Room)).room s m (([.long a0, .long a2, .long a4, .long a6] : List Value).toArray) below meth c s.heap [] 0 0 (MQ below (vp_Si (fun r => r = out)) (([.long a0, .long a2, .long a4, .long a6] : List Value).toArray) s 0 0 (fun _ => False)) (F0 m 138 ls [.int s0]) := by
                  intro x8 x10 x12 x14 s0 h ls hl
                  unfold C_MD_face_138 at h
                  refine lv_istore (lv' := [(18, .int s0), (8, .long x8), (10, .long x10), (12, .long x12), (14, .long x14)]) hx hb d_MD_face_138 hl (by decide) rfl (fun ls hl => ?_)
                  refine lv_lload hx hb d_MD_face_140 (lv_at hl 2 rfl) ?_
                  refine lv_lload hx hb d_MD_face_142 (lv_at hl 4 rfl) ?_
                  refine W.lcmp hx hb d_MD_face_144 ?_
                  refine lv_if_gt (tgt := 165) hx hb d_MD_face_145 (by decide) (fun c121 => ?_) (fun c121 => ?_)
                  · rw [if_pos c121] at h
                    refine lv_iconst (v := 0) hx hb d_MD_face_165 (by decide) ?_
                    exact W.zret hx hb hr rfl (fun t ht _ => ⟨_, rfl, Option.some.inj h, ht⟩) (fun _ hq => nomatch hq) d_MD_face_166
                  · rw [if_neg c121] at h
                    refine lv_lload hx hb d_MD_face_148 (lv_at hl 1 rfl) ?_
                    refine lv_lload hx hb d_MD_face_150 (lv_at hl 3 rfl) ?_
                    refine W.lcmp hx hb d_MD_face_152 ?_
                    refine lv_if_le (tgt := 161) hx hb d_MD_face_153 (by decide) (fun c122 => ?_) (fun c122 => ?_)
                    · rw [if_pos c122] at h
                      refine lv_iconst (v := 1) hx hb d_MD_face_161 (by decide) ?_
                      refine lv_goto (tgt := 166) hx hb d_MD_face_162 (by decide) ?_
                      exact W.zret hx hb hr rfl (fun t ht _ => ⟨_, rfl, Option.some.inj h, ht⟩) (fun _ hq => nomatch hq) d_MD_face_166
                    · rw [if_neg c122] at h
                      refine lv_iload hx hb d_MD_face_156 (lv_at hl 0 rfl) ?_
                      refine lv_if_eq (tgt := 165) hx hb d_MD_face_158 (by decide) (fun c123 => ?_) (fun c123 => ?_)
                      · rw [if_pos c123] at h
                        refine lv_iconst (v := 0) hx hb d_MD_face_165 (by decide) ?_
                        exact W.zret hx hb hr rfl (fun t ht _ => ⟨_, rfl, Option.some.inj h, ht⟩) (fun _ hq => nomatch hq) d_MD_face_166
                      · rw [if_neg c123] at h
                        refine lv_iconst (v := 1) hx hb d_MD_face_161 (by decide) ?_
                        refine lv_goto (tgt := 166) hx hb d_MD_face_162 (by decide) ?_
                        exact W.zret hx hb hr rfl (fun t ht _ => ⟨_, rfl, Option.some.inj h, ht⟩) (fun _ hq => nomatch hq) d_MD_face_166
                exact k138 x8 x10 x12 s0 1 h _ (lv_sub hl [2, 3, 4, 1] rfl)
            exact k58 x8 s0 x4 x4 h _ (lv_sub hl [4, 1, 0] rfl)
          · rw [if_neg c110] at h
            refine lv_lload hx hb d_MD_face_51 (lv_at hl 3 rfl) ?_
            refine lv_goto (tgt := 58) hx hb d_MD_face_53 (by decide) ?_
            have k58 : ∀ (x8 : Int64) (x10 : Int64) (x12 : Int64) (s0 : Int64) (h : C_MD_face_58 σ x8 x10 x12 s0 = some out) (ls : Array Slot) (hl : lv_has ls 19 [(8, .long x8), (10, .long x10), (12, .long x12)]), W p l e (headSpec wl_MD_face ({ frames := 0, cells := 0, slots := 0, locals := 0 } : Room)).room s m (([.long a0, .long a2, .long a4, .long a6] : List Value).toArray) below meth c s.heap [] 0 0 (MQ below (vp_Si (fun r => r = out)) (([.long a0, .long a2, .long a4, .long a6] : List Value).toArray) s 0 0 (fun _ => False)) (F0 m 58 ls [.long s0]) := by
              intro x8 x10 x12 s0 h ls hl
              unfold C_MD_face_58 at h
              refine lv_lstore (lv' := [(14, .long s0), (8, .long x8), (10, .long x10), (12, .long x12)]) hx hb d_MD_face_58 hl (by decide) rfl (fun ls hl => ?_)
              refine lv_lload hx hb d_MD_face_60 (lv_at hl 1 rfl) ?_
              refine lv_lload hx hb d_MD_face_62 (lv_at hl 1 rfl) ?_
              refine lv_lmul hx hb d_MD_face_64 ?_
              refine lv_lload hx hb d_MD_face_65 (lv_at hl 2 rfl) ?_
              refine lv_lload hx hb d_MD_face_67 (lv_at hl 2 rfl) ?_
              refine lv_lmul hx hb d_MD_face_69 ?_
              refine lv_lsub hx hb d_MD_face_70 ?_
              obtain ⟨y111, e_y111, h⟩ := lt1_some h
              refine W.eq (g2 := F0 m 71 ls (.long y111 :: [])) (by rw [e_y111]) ?_
              refine lv_lstore (lv' := [(16, .long y111), (14, .long s0), (8, .long x8), (10, .long x10), (12, .long x12)]) hx hb d_MD_face_71 hl (by decide) rfl (fun ls hl => ?_)
              refine lv_lload hx hb d_MD_face_73 (lv_at hl 4 rfl) ?_
              refine lv_lload hx hb d_MD_face_75 (lv_at hl 1 rfl) ?_
              refine lv_ladd hx hb d_MD_face_77 ?_
              refine lv_lload hx hb d_MD_face_78 (lv_at hl 4 rfl) ?_
              refine lv_lload hx hb d_MD_face_80 (lv_at hl 1 rfl) ?_
              refine lv_ladd hx hb d_MD_face_82 ?_
              refine lv_lmul hx hb d_MD_face_83 ?_
              refine lv_lload hx hb d_MD_face_84 (lv_at hl 2 rfl) ?_
              refine lv_lload hx hb d_MD_face_86 (lv_at hl 3 rfl) ?_
              refine lv_lsub hx hb d_MD_face_88 ?_
              refine lv_lmul hx hb d_MD_face_89 ?_
              refine lv_lload hx hb d_MD_face_90 (lv_at hl 2 rfl) ?_
              refine lv_lload hx hb d_MD_face_92 (lv_at hl 3 rfl) ?_
              refine lv_lsub hx hb d_MD_face_94 ?_
              refine lv_lmul hx hb d_MD_face_95 ?_
              refine lv_lload hx hb d_MD_face_96 (lv_at hl 4 rfl) ?_
              refine lv_lload hx hb d_MD_face_98 (lv_at hl 1 rfl) ?_
              refine lv_lsub hx hb d_MD_face_100 ?_
              refine lv_lload hx hb d_MD_face_101 (lv_at hl 4 rfl) ?_
              refine lv_lload hx hb d_MD_face_103 (lv_at hl 1 rfl) ?_
              refine lv_lsub hx hb d_MD_face_105 ?_
              refine lv_lmul hx hb d_MD_face_106 ?_
              refine lv_lload hx hb d_MD_face_107 (lv_at hl 2 rfl) ?_
              refine lv_lload hx hb d_MD_face_109 (lv_at hl 3 rfl) ?_
              refine lv_ladd hx hb d_MD_face_111 ?_
              refine lv_lmul hx hb d_MD_face_112 ?_
              refine lv_lload hx hb d_MD_face_113 (lv_at hl 2 rfl) ?_
              refine lv_lload hx hb d_MD_face_115 (lv_at hl 3 rfl) ?_
              refine lv_ladd hx hb d_MD_face_117 ?_
              refine lv_lmul hx hb d_MD_face_118 ?_
              refine lv_ladd hx hb d_MD_face_119 ?_
              refine lv_ldc2 (v := 2) hx hb hown (hts _ w_835) d_MD_face_120 ?_
              refine lv_lload hx hb d_MD_face_123 (lv_at hl 0 rfl) ?_
              refine lv_lmul hx hb d_MD_face_125 ?_
              refine lv_lload hx hb d_MD_face_126 (lv_at hl 0 rfl) ?_
              refine lv_lmul hx hb d_MD_face_128 ?_
              refine W.lcmp hx hb d_MD_face_129 ?_
              refine lv_if_lt (tgt := 137) hx hb d_MD_face_130 (by decide) (fun c112 => ?_) (fun c112 => ?_)
              · rw [if_pos c112] at h
                refine lv_iconst (v := 0) hx hb d_MD_face_137 (by decide) ?_
                have k138 : ∀ (x8 : Int64) (x10 : Int64) (x12 : Int64) (x14 : Int64) (s0 : Int32) (h : C_MD_face_138 σ x8 x10 x12 x14 s0 = some out) (ls : Array Slot) (hl : lv_has ls 19 [(8, .long x8), (10, .long x10), (12, .long x12), (14, .long x14)]), W p l e (headSpec wl_MD_face ({ frames := 0, cells := 0, slots := 0, locals := 0 } : Room)).room s m (([.long a0, .long a2, .long a4, .long a6] : List Value).toArray) below meth c s.heap [] 0 0 (MQ below (vp_Si (fun r => r = out)) (([.long a0, .long a2, .long a4, .long a6] : List Value).toArray) s 0 0 (fun _ => False)) (F0 m 138 ls [.int s0]) := by
                  intro x8 x10 x12 x14 s0 h ls hl
                  unfold C_MD_face_138 at h
                  refine lv_istore (lv' := [(18, .int s0), (8, .long x8), (10, .long x10), (12, .long x12), (14, .long x14)]) hx hb d_MD_face_138 hl (by decide) rfl (fun ls hl => ?_)
                  refine lv_lload hx hb d_MD_face_140 (lv_at hl 2 rfl) ?_
                  refine lv_lload hx hb d_MD_face_142 (lv_at hl 4 rfl) ?_
                  refine W.lcmp hx hb d_MD_face_144 ?_
                  refine lv_if_gt (tgt := 165) hx hb d_MD_face_145 (by decide) (fun c116 => ?_) (fun c116 => ?_)
                  · rw [if_pos c116] at h
                    refine lv_iconst (v := 0) hx hb d_MD_face_165 (by decide) ?_
                    exact W.zret hx hb hr rfl (fun t ht _ => ⟨_, rfl, Option.some.inj h, ht⟩) (fun _ hq => nomatch hq) d_MD_face_166
                  · rw [if_neg c116] at h
                    refine lv_lload hx hb d_MD_face_148 (lv_at hl 1 rfl) ?_
                    refine lv_lload hx hb d_MD_face_150 (lv_at hl 3 rfl) ?_
                    refine W.lcmp hx hb d_MD_face_152 ?_
                    refine lv_if_le (tgt := 161) hx hb d_MD_face_153 (by decide) (fun c117 => ?_) (fun c117 => ?_)
                    · rw [if_pos c117] at h
                      refine lv_iconst (v := 1) hx hb d_MD_face_161 (by decide) ?_
                      refine lv_goto (tgt := 166) hx hb d_MD_face_162 (by decide) ?_
                      exact W.zret hx hb hr rfl (fun t ht _ => ⟨_, rfl, Option.some.inj h, ht⟩) (fun _ hq => nomatch hq) d_MD_face_166
                    · rw [if_neg c117] at h
                      refine lv_iload hx hb d_MD_face_156 (lv_at hl 0 rfl) ?_
                      refine lv_if_eq (tgt := 165) hx hb d_MD_face_158 (by decide) (fun c118 => ?_) (fun c118 => ?_)
                      · rw [if_pos c118] at h
                        refine lv_iconst (v := 0) hx hb d_MD_face_165 (by decide) ?_
                        exact W.zret hx hb hr rfl (fun t ht _ => ⟨_, rfl, Option.some.inj h, ht⟩) (fun _ hq => nomatch hq) d_MD_face_166
                      · rw [if_neg c118] at h
                        refine lv_iconst (v := 1) hx hb d_MD_face_161 (by decide) ?_
                        refine lv_goto (tgt := 166) hx hb d_MD_face_162 (by decide) ?_
                        exact W.zret hx hb hr rfl (fun t ht _ => ⟨_, rfl, Option.some.inj h, ht⟩) (fun _ hq => nomatch hq) d_MD_face_166
                exact k138 x8 x10 x12 s0 0 h _ (lv_sub hl [2, 3, 4, 1] rfl)
              · rw [if_neg c112] at h
                refine lv_iconst (v := 1) hx hb d_MD_face_133 (by decide) ?_
                refine lv_goto (tgt := 138) hx hb d_MD_face_134 (by decide) ?_
                have k138 : ∀ (x8 : Int64) (x10 : Int64) (x12 : Int64) (x14 : Int64) (s0 : Int32) (h : C_MD_face_138 σ x8 x10 x12 x14 s0 = some out) (ls : Array Slot) (hl : lv_has ls 19 [(8, .long x8), (10, .long x10), (12, .long x12), (14, .long x14)]), W p l e (headSpec wl_MD_face ({ frames := 0, cells := 0, slots := 0, locals := 0 } : Room)).room s m (([.long a0, .long a2, .long a4, .long a6] : List Value).toArray) below meth c s.heap [] 0 0 (MQ below (vp_Si (fun r => r = out)) (([.long a0, .long a2, .long a4, .long a6] : List Value).toArray) s 0 0 (fun _ => False)) (F0 m 138 ls [.int s0]) := by
                  intro x8 x10 x12 x14 s0 h ls hl
                  unfold C_MD_face_138 at h
                  refine lv_istore (lv' := [(18, .int s0), (8, .long x8), (10, .long x10), (12, .long x12), (14, .long x14)]) hx hb d_MD_face_138 hl (by decide) rfl (fun ls hl => ?_)
                  refine lv_lload hx hb d_MD_face_140 (lv_at hl 2 rfl) ?_
                  refine lv_lload hx hb d_MD_face_142 (lv_at hl 4 rfl) ?_
                  refine W.lcmp hx hb d_MD_face_144 ?_
                  refine lv_if_gt (tgt := 165) hx hb d_MD_face_145 (by decide) (fun c113 => ?_) (fun c113 => ?_)
                  · rw [if_pos c113] at h
                    refine lv_iconst (v := 0) hx hb d_MD_face_165 (by decide) ?_
                    exact W.zret hx hb hr rfl (fun t ht _ => ⟨_, rfl, Option.some.inj h, ht⟩) (fun _ hq => nomatch hq) d_MD_face_166
                  · rw [if_neg c113] at h
                    refine lv_lload hx hb d_MD_face_148 (lv_at hl 1 rfl) ?_
                    refine lv_lload hx hb d_MD_face_150 (lv_at hl 3 rfl) ?_
                    refine W.lcmp hx hb d_MD_face_152 ?_
                    refine lv_if_le (tgt := 161) hx hb d_MD_face_153 (by decide) (fun c114 => ?_) (fun c114 => ?_)
                    · rw [if_pos c114] at h
                      refine lv_iconst (v := 1) hx hb d_MD_face_161 (by decide) ?_
                      refine lv_goto (tgt := 166) hx hb d_MD_face_162 (by decide) ?_
                      exact W.zret hx hb hr rfl (fun t ht _ => ⟨_, rfl, Option.some.inj h, ht⟩) (fun _ hq => nomatch hq) d_MD_face_166
                    · rw [if_neg c114] at h
                      refine lv_iload hx hb d_MD_face_156 (lv_at hl 0 rfl) ?_
                      refine lv_if_eq (tgt := 165) hx hb d_MD_face_158 (by decide) (fun c115 => ?_) (fun c115 => ?_)
                      · rw [if_pos c115] at h
                        refine lv_iconst (v := 0) hx hb d_MD_face_165 (by decide) ?_
                        exact W.zret hx hb hr rfl (fun t ht _ => ⟨_, rfl, Option.some.inj h, ht⟩) (fun _ hq => nomatch hq) d_MD_face_166
                      · rw [if_neg c115] at h
                        refine lv_iconst (v := 1) hx hb d_MD_face_161 (by decide) ?_
                        refine lv_goto (tgt := 166) hx hb d_MD_face_162 (by decide) ?_
                        exact W.zret hx hb hr rfl (fun t ht _ => ⟨_, rfl, Option.some.inj h, ht⟩) (fun _ hq => nomatch hq) d_MD_face_166
                exact k138 x8 x10 x12 s0 1 h _ (lv_sub hl [2, 3, 4, 1] rfl)
            exact k58 x8 s0 x4 x6 h _ (lv_sub hl [4, 1, 0] rfl)
      exact k24 a4 a6 a2 a0 h _ (lv_sub hl [3, 4, 0] rfl)
    · rw [if_neg c73] at h
      refine lv_lload_n hx hb d_MD_face_19 rfl (lv_at hl 2 rfl) ?_
      refine lv_goto (tgt := 24) hx hb d_MD_face_20 (by decide) ?_
      have k24 : ∀ (x4 : Int64) (x6 : Int64) (x8 : Int64) (s0 : Int64) (h : C_MD_face_24 σ x4 x6 x8 s0 = some out) (ls : Array Slot) (hl : lv_has ls 19 [(4, .long x4), (6, .long x6), (8, .long x8)]), W p l e (headSpec wl_MD_face ({ frames := 0, cells := 0, slots := 0, locals := 0 } : Room)).room s m (([.long a0, .long a2, .long a4, .long a6] : List Value).toArray) below meth c s.heap [] 0 0 (MQ below (vp_Si (fun r => r = out)) (([.long a0, .long a2, .long a4, .long a6] : List Value).toArray) s 0 0 (fun _ => False)) (F0 m 24 ls [.long s0]) := by
        intro x4 x6 x8 s0 h ls hl
        unfold C_MD_face_24 at h
        refine lv_lstore (lv' := [(10, .long s0), (4, .long x4), (6, .long x6), (8, .long x8)]) hx hb d_MD_face_24 hl (by decide) rfl (fun ls hl => ?_)
        refine lv_lload hx hb d_MD_face_26 (lv_at hl 1 rfl) ?_
        refine lv_lload hx hb d_MD_face_28 (lv_at hl 2 rfl) ?_
        refine W.lcmp hx hb d_MD_face_30 ?_
        refine lv_if_le (tgt := 39) hx hb d_MD_face_31 (by decide) (fun c74 => ?_) (fun c74 => ?_)
        · rw [if_pos c74] at h
          refine lv_lload hx hb d_MD_face_39 (lv_at hl 2 rfl) ?_
          refine lv_lstore (lv' := [(12, .long x6), (10, .long s0), (4, .long x4), (6, .long x6), (8, .long x8)]) hx hb d_MD_face_41 hl (by decide) rfl (fun ls hl => ?_)
          refine lv_lload hx hb d_MD_face_43 (lv_at hl 2 rfl) ?_
          refine lv_lload hx hb d_MD_face_45 (lv_at hl 3 rfl) ?_
          refine W.lcmp hx hb d_MD_face_47 ?_
          refine lv_if_le (tgt := 56) hx hb d_MD_face_48 (by decide) (fun c92 => ?_) (fun c92 => ?_)
          · rw [if_pos c92] at h
            refine lv_lload hx hb d_MD_face_56 (lv_at hl 2 rfl) ?_
            have k58 : ∀ (x8 : Int64) (x10 : Int64) (x12 : Int64) (s0 : Int64) (h : C_MD_face_58 σ x8 x10 x12 s0 = some out) (ls : Array Slot) (hl : lv_has ls 19 [(8, .long x8), (10, .long x10), (12, .long x12)]), W p l e (headSpec wl_MD_face ({ frames := 0, cells := 0, slots := 0, locals := 0 } : Room)).room s m (([.long a0, .long a2, .long a4, .long a6] : List Value).toArray) below meth c s.heap [] 0 0 (MQ below (vp_Si (fun r => r = out)) (([.long a0, .long a2, .long a4, .long a6] : List Value).toArray) s 0 0 (fun _ => False)) (F0 m 58 ls [.long s0]) := by
              intro x8 x10 x12 s0 h ls hl
              unfold C_MD_face_58 at h
              refine lv_lstore (lv' := [(14, .long s0), (8, .long x8), (10, .long x10), (12, .long x12)]) hx hb d_MD_face_58 hl (by decide) rfl (fun ls hl => ?_)
              refine lv_lload hx hb d_MD_face_60 (lv_at hl 1 rfl) ?_
              refine lv_lload hx hb d_MD_face_62 (lv_at hl 1 rfl) ?_
              refine lv_lmul hx hb d_MD_face_64 ?_
              refine lv_lload hx hb d_MD_face_65 (lv_at hl 2 rfl) ?_
              refine lv_lload hx hb d_MD_face_67 (lv_at hl 2 rfl) ?_
              refine lv_lmul hx hb d_MD_face_69 ?_
              refine lv_lsub hx hb d_MD_face_70 ?_
              obtain ⟨y101, e_y101, h⟩ := lt1_some h
              refine W.eq (g2 := F0 m 71 ls (.long y101 :: [])) (by rw [e_y101]) ?_
              refine lv_lstore (lv' := [(16, .long y101), (14, .long s0), (8, .long x8), (10, .long x10), (12, .long x12)]) hx hb d_MD_face_71 hl (by decide) rfl (fun ls hl => ?_)
              refine lv_lload hx hb d_MD_face_73 (lv_at hl 4 rfl) ?_
              refine lv_lload hx hb d_MD_face_75 (lv_at hl 1 rfl) ?_
              refine lv_ladd hx hb d_MD_face_77 ?_
              refine lv_lload hx hb d_MD_face_78 (lv_at hl 4 rfl) ?_
              refine lv_lload hx hb d_MD_face_80 (lv_at hl 1 rfl) ?_
              refine lv_ladd hx hb d_MD_face_82 ?_
              refine lv_lmul hx hb d_MD_face_83 ?_
              refine lv_lload hx hb d_MD_face_84 (lv_at hl 2 rfl) ?_
              refine lv_lload hx hb d_MD_face_86 (lv_at hl 3 rfl) ?_
              refine lv_lsub hx hb d_MD_face_88 ?_
              refine lv_lmul hx hb d_MD_face_89 ?_
              refine lv_lload hx hb d_MD_face_90 (lv_at hl 2 rfl) ?_
              refine lv_lload hx hb d_MD_face_92 (lv_at hl 3 rfl) ?_
              refine lv_lsub hx hb d_MD_face_94 ?_
              refine lv_lmul hx hb d_MD_face_95 ?_
              refine lv_lload hx hb d_MD_face_96 (lv_at hl 4 rfl) ?_
              refine lv_lload hx hb d_MD_face_98 (lv_at hl 1 rfl) ?_
              refine lv_lsub hx hb d_MD_face_100 ?_
              refine lv_lload hx hb d_MD_face_101 (lv_at hl 4 rfl) ?_
              refine lv_lload hx hb d_MD_face_103 (lv_at hl 1 rfl) ?_
              refine lv_lsub hx hb d_MD_face_105 ?_
              refine lv_lmul hx hb d_MD_face_106 ?_
              refine lv_lload hx hb d_MD_face_107 (lv_at hl 2 rfl) ?_
              refine lv_lload hx hb d_MD_face_109 (lv_at hl 3 rfl) ?_
              refine lv_ladd hx hb d_MD_face_111 ?_
              refine lv_lmul hx hb d_MD_face_112 ?_
              refine lv_lload hx hb d_MD_face_113 (lv_at hl 2 rfl) ?_
              refine lv_lload hx hb d_MD_face_115 (lv_at hl 3 rfl) ?_
              refine lv_ladd hx hb d_MD_face_117 ?_
              refine lv_lmul hx hb d_MD_face_118 ?_
              refine lv_ladd hx hb d_MD_face_119 ?_
              refine lv_ldc2 (v := 2) hx hb hown (hts _ w_835) d_MD_face_120 ?_
              refine lv_lload hx hb d_MD_face_123 (lv_at hl 0 rfl) ?_
              refine lv_lmul hx hb d_MD_face_125 ?_
              refine lv_lload hx hb d_MD_face_126 (lv_at hl 0 rfl) ?_
              refine lv_lmul hx hb d_MD_face_128 ?_
              refine W.lcmp hx hb d_MD_face_129 ?_
              refine lv_if_lt (tgt := 137) hx hb d_MD_face_130 (by decide) (fun c102 => ?_) (fun c102 => ?_)
              · rw [if_pos c102] at h
                refine lv_iconst (v := 0) hx hb d_MD_face_137 (by decide) ?_
                have k138 : ∀ (x8 : Int64) (x10 : Int64) (x12 : Int64) (x14 : Int64) (s0 : Int32) (h : C_MD_face_138 σ x8 x10 x12 x14 s0 = some out) (ls : Array Slot) (hl : lv_has ls 19 [(8, .long x8), (10, .long x10), (12, .long x12), (14, .long x14)]), W p l e (headSpec wl_MD_face ({ frames := 0, cells := 0, slots := 0, locals := 0 } : Room)).room s m (([.long a0, .long a2, .long a4, .long a6] : List Value).toArray) below meth c s.heap [] 0 0 (MQ below (vp_Si (fun r => r = out)) (([.long a0, .long a2, .long a4, .long a6] : List Value).toArray) s 0 0 (fun _ => False)) (F0 m 138 ls [.int s0]) := by
                  intro x8 x10 x12 x14 s0 h ls hl
                  unfold C_MD_face_138 at h
                  refine lv_istore (lv' := [(18, .int s0), (8, .long x8), (10, .long x10), (12, .long x12), (14, .long x14)]) hx hb d_MD_face_138 hl (by decide) rfl (fun ls hl => ?_)
                  refine lv_lload hx hb d_MD_face_140 (lv_at hl 2 rfl) ?_
                  refine lv_lload hx hb d_MD_face_142 (lv_at hl 4 rfl) ?_
                  refine W.lcmp hx hb d_MD_face_144 ?_
                  refine lv_if_gt (tgt := 165) hx hb d_MD_face_145 (by decide) (fun c106 => ?_) (fun c106 => ?_)
                  · rw [if_pos c106] at h
                    refine lv_iconst (v := 0) hx hb d_MD_face_165 (by decide) ?_
                    exact W.zret hx hb hr rfl (fun t ht _ => ⟨_, rfl, Option.some.inj h, ht⟩) (fun _ hq => nomatch hq) d_MD_face_166
                  · rw [if_neg c106] at h
                    refine lv_lload hx hb d_MD_face_148 (lv_at hl 1 rfl) ?_
                    refine lv_lload hx hb d_MD_face_150 (lv_at hl 3 rfl) ?_
                    refine W.lcmp hx hb d_MD_face_152 ?_
                    refine lv_if_le (tgt := 161) hx hb d_MD_face_153 (by decide) (fun c107 => ?_) (fun c107 => ?_)
                    · rw [if_pos c107] at h
                      refine lv_iconst (v := 1) hx hb d_MD_face_161 (by decide) ?_
                      refine lv_goto (tgt := 166) hx hb d_MD_face_162 (by decide) ?_
                      exact W.zret hx hb hr rfl (fun t ht _ => ⟨_, rfl, Option.some.inj h, ht⟩) (fun _ hq => nomatch hq) d_MD_face_166
                    · rw [if_neg c107] at h
                      refine lv_iload hx hb d_MD_face_156 (lv_at hl 0 rfl) ?_
                      refine lv_if_eq (tgt := 165) hx hb d_MD_face_158 (by decide) (fun c108 => ?_) (fun c108 => ?_)
                      · rw [if_pos c108] at h
                        refine lv_iconst (v := 0) hx hb d_MD_face_165 (by decide) ?_
                        exact W.zret hx hb hr rfl (fun t ht _ => ⟨_, rfl, Option.some.inj h, ht⟩) (fun _ hq => nomatch hq) d_MD_face_166
                      · rw [if_neg c108] at h
                        refine lv_iconst (v := 1) hx hb d_MD_face_161 (by decide) ?_
                        refine lv_goto (tgt := 166) hx hb d_MD_face_162 (by decide) ?_
                        exact W.zret hx hb hr rfl (fun t ht _ => ⟨_, rfl, Option.some.inj h, ht⟩) (fun _ hq => nomatch hq) d_MD_face_166
                exact k138 x8 x10 x12 s0 0 h _ (lv_sub hl [2, 3, 4, 1] rfl)
              · rw [if_neg c102] at h
                refine lv_iconst (v := 1) hx hb d_MD_face_133 (by decide) ?_
                refine lv_goto (tgt := 138) hx hb d_MD_face_134 (by decide) ?_
                have k138 : ∀ (x8 : Int64) (x10 : Int64) (x12 : Int64) (x14 : Int64) (s0 : Int32) (h : C_MD_face_138 σ x8 x10 x12 x14 s0 = some out) (ls : Array Slot) (hl : lv_has ls 19 [(8, .long x8), (10, .long x10), (12, .long x12), (14, .long x14)]), W p l e (headSpec wl_MD_face ({ frames := 0, cells := 0, slots := 0, locals := 0 } : Room)).room s m (([.long a0, .long a2, .long a4, .long a6] : List Value).toArray) below meth c s.heap [] 0 0 (MQ below (vp_Si (fun r => r = out)) (([.long a0, .long a2, .long a4, .long a6] : List Value).toArray) s 0 0 (fun _ => False)) (F0 m 138 ls [.int s0]) := by
                  intro x8 x10 x12 x14 s0 h ls hl
                  unfold C_MD_face_138 at h
                  refine lv_istore (lv' := [(18, .int s0), (8, .long x8), (10, .long x10), (12, .long x12), (14, .long x14)]) hx hb d_MD_face_138 hl (by decide) rfl (fun ls hl => ?_)
                  refine lv_lload hx hb d_MD_face_140 (lv_at hl 2 rfl) ?_
                  refine lv_lload hx hb d_MD_face_142 (lv_at hl 4 rfl) ?_
                  refine W.lcmp hx hb d_MD_face_144 ?_
                  refine lv_if_gt (tgt := 165) hx hb d_MD_face_145 (by decide) (fun c103 => ?_) (fun c103 => ?_)
                  · rw [if_pos c103] at h
                    refine lv_iconst (v := 0) hx hb d_MD_face_165 (by decide) ?_
                    exact W.zret hx hb hr rfl (fun t ht _ => ⟨_, rfl, Option.some.inj h, ht⟩) (fun _ hq => nomatch hq) d_MD_face_166
                  · rw [if_neg c103] at h
                    refine lv_lload hx hb d_MD_face_148 (lv_at hl 1 rfl) ?_
                    refine lv_lload hx hb d_MD_face_150 (lv_at hl 3 rfl) ?_
                    refine W.lcmp hx hb d_MD_face_152 ?_
                    refine lv_if_le (tgt := 161) hx hb d_MD_face_153 (by decide) (fun c104 => ?_) (fun c104 => ?_)
                    · rw [if_pos c104] at h
                      refine lv_iconst (v := 1) hx hb d_MD_face_161 (by decide) ?_
                      refine lv_goto (tgt := 166) hx hb d_MD_face_162 (by decide) ?_
                      exact W.zret hx hb hr rfl (fun t ht _ => ⟨_, rfl, Option.some.inj h, ht⟩) (fun _ hq => nomatch hq) d_MD_face_166
                    · rw [if_neg c104] at h
                      refine lv_iload hx hb d_MD_face_156 (lv_at hl 0 rfl) ?_
                      refine lv_if_eq (tgt := 165) hx hb d_MD_face_158 (by decide) (fun c105 => ?_) (fun c105 => ?_)
                      · rw [if_pos c105] at h
                        refine lv_iconst (v := 0) hx hb d_MD_face_165 (by decide) ?_
                        exact W.zret hx hb hr rfl (fun t ht _ => ⟨_, rfl, Option.some.inj h, ht⟩) (fun _ hq => nomatch hq) d_MD_face_166
                      · rw [if_neg c105] at h
                        refine lv_iconst (v := 1) hx hb d_MD_face_161 (by decide) ?_
                        refine lv_goto (tgt := 166) hx hb d_MD_face_162 (by decide) ?_
                        exact W.zret hx hb hr rfl (fun t ht _ => ⟨_, rfl, Option.some.inj h, ht⟩) (fun _ hq => nomatch hq) d_MD_face_166
                exact k138 x8 x10 x12 s0 1 h _ (lv_sub hl [2, 3, 4, 1] rfl)
            exact k58 x8 s0 x6 x4 h _ (lv_sub hl [4, 1, 0] rfl)
          · rw [if_neg c92] at h
            refine lv_lload hx hb d_MD_face_51 (lv_at hl 3 rfl) ?_
            refine lv_goto (tgt := 58) hx hb d_MD_face_53 (by decide) ?_
            have k58 : ∀ (x8 : Int64) (x10 : Int64) (x12 : Int64) (s0 : Int64) (h : C_MD_face_58 σ x8 x10 x12 s0 = some out) (ls : Array Slot) (hl : lv_has ls 19 [(8, .long x8), (10, .long x10), (12, .long x12)]), W p l e (headSpec wl_MD_face ({ frames := 0, cells := 0, slots := 0, locals := 0 } : Room)).room s m (([.long a0, .long a2, .long a4, .long a6] : List Value).toArray) below meth c s.heap [] 0 0 (MQ below (vp_Si (fun r => r = out)) (([.long a0, .long a2, .long a4, .long a6] : List Value).toArray) s 0 0 (fun _ => False)) (F0 m 58 ls [.long s0]) := by
              intro x8 x10 x12 s0 h ls hl
              unfold C_MD_face_58 at h
              refine lv_lstore (lv' := [(14, .long s0), (8, .long x8), (10, .long x10), (12, .long x12)]) hx hb d_MD_face_58 hl (by decide) rfl (fun ls hl => ?_)
              refine lv_lload hx hb d_MD_face_60 (lv_at hl 1 rfl) ?_
              refine lv_lload hx hb d_MD_face_62 (lv_at hl 1 rfl) ?_
              refine lv_lmul hx hb d_MD_face_64 ?_
              refine lv_lload hx hb d_MD_face_65 (lv_at hl 2 rfl) ?_
              refine lv_lload hx hb d_MD_face_67 (lv_at hl 2 rfl) ?_
              refine lv_lmul hx hb d_MD_face_69 ?_
              refine lv_lsub hx hb d_MD_face_70 ?_
              obtain ⟨y93, e_y93, h⟩ := lt1_some h
              refine W.eq (g2 := F0 m 71 ls (.long y93 :: [])) (by rw [e_y93]) ?_
              refine lv_lstore (lv' := [(16, .long y93), (14, .long s0), (8, .long x8), (10, .long x10), (12, .long x12)]) hx hb d_MD_face_71 hl (by decide) rfl (fun ls hl => ?_)
              refine lv_lload hx hb d_MD_face_73 (lv_at hl 4 rfl) ?_
              refine lv_lload hx hb d_MD_face_75 (lv_at hl 1 rfl) ?_
              refine lv_ladd hx hb d_MD_face_77 ?_
              refine lv_lload hx hb d_MD_face_78 (lv_at hl 4 rfl) ?_
              refine lv_lload hx hb d_MD_face_80 (lv_at hl 1 rfl) ?_
              refine lv_ladd hx hb d_MD_face_82 ?_
              refine lv_lmul hx hb d_MD_face_83 ?_
              refine lv_lload hx hb d_MD_face_84 (lv_at hl 2 rfl) ?_
              refine lv_lload hx hb d_MD_face_86 (lv_at hl 3 rfl) ?_
              refine lv_lsub hx hb d_MD_face_88 ?_
              refine lv_lmul hx hb d_MD_face_89 ?_
              refine lv_lload hx hb d_MD_face_90 (lv_at hl 2 rfl) ?_
              refine lv_lload hx hb d_MD_face_92 (lv_at hl 3 rfl) ?_
              refine lv_lsub hx hb d_MD_face_94 ?_
              refine lv_lmul hx hb d_MD_face_95 ?_
              refine lv_lload hx hb d_MD_face_96 (lv_at hl 4 rfl) ?_
              refine lv_lload hx hb d_MD_face_98 (lv_at hl 1 rfl) ?_
              refine lv_lsub hx hb d_MD_face_100 ?_
              refine lv_lload hx hb d_MD_face_101 (lv_at hl 4 rfl) ?_
              refine lv_lload hx hb d_MD_face_103 (lv_at hl 1 rfl) ?_
              refine lv_lsub hx hb d_MD_face_105 ?_
              refine lv_lmul hx hb d_MD_face_106 ?_
              refine lv_lload hx hb d_MD_face_107 (lv_at hl 2 rfl) ?_
              refine lv_lload hx hb d_MD_face_109 (lv_at hl 3 rfl) ?_
              refine lv_ladd hx hb d_MD_face_111 ?_
              refine lv_lmul hx hb d_MD_face_112 ?_
              refine lv_lload hx hb d_MD_face_113 (lv_at hl 2 rfl) ?_
              refine lv_lload hx hb d_MD_face_115 (lv_at hl 3 rfl) ?_
              refine lv_ladd hx hb d_MD_face_117 ?_
              refine lv_lmul hx hb d_MD_face_118 ?_
              refine lv_ladd hx hb d_MD_face_119 ?_
              refine lv_ldc2 (v := 2) hx hb hown (hts _ w_835) d_MD_face_120 ?_
              refine lv_lload hx hb d_MD_face_123 (lv_at hl 0 rfl) ?_
              refine lv_lmul hx hb d_MD_face_125 ?_
              refine lv_lload hx hb d_MD_face_126 (lv_at hl 0 rfl) ?_
              refine lv_lmul hx hb d_MD_face_128 ?_
              refine W.lcmp hx hb d_MD_face_129 ?_
              refine lv_if_lt (tgt := 137) hx hb d_MD_face_130 (by decide) (fun c94 => ?_) (fun c94 => ?_)
              · rw [if_pos c94] at h
                refine lv_iconst (v := 0) hx hb d_MD_face_137 (by decide) ?_
                have k138 : ∀ (x8 : Int64) (x10 : Int64) (x12 : Int64) (x14 : Int64) (s0 : Int32) (h : C_MD_face_138 σ x8 x10 x12 x14 s0 = some out) (ls : Array Slot) (hl : lv_has ls 19 [(8, .long x8), (10, .long x10), (12, .long x12), (14, .long x14)]), W p l e (headSpec wl_MD_face ({ frames := 0, cells := 0, slots := 0, locals := 0 } : Room)).room s m (([.long a0, .long a2, .long a4, .long a6] : List Value).toArray) below meth c s.heap [] 0 0 (MQ below (vp_Si (fun r => r = out)) (([.long a0, .long a2, .long a4, .long a6] : List Value).toArray) s 0 0 (fun _ => False)) (F0 m 138 ls [.int s0]) := by
                  intro x8 x10 x12 x14 s0 h ls hl
                  unfold C_MD_face_138 at h
                  refine lv_istore (lv' := [(18, .int s0), (8, .long x8), (10, .long x10), (12, .long x12), (14, .long x14)]) hx hb d_MD_face_138 hl (by decide) rfl (fun ls hl => ?_)
                  refine lv_lload hx hb d_MD_face_140 (lv_at hl 2 rfl) ?_
                  refine lv_lload hx hb d_MD_face_142 (lv_at hl 4 rfl) ?_
                  refine W.lcmp hx hb d_MD_face_144 ?_
                  refine lv_if_gt (tgt := 165) hx hb d_MD_face_145 (by decide) (fun c98 => ?_) (fun c98 => ?_)
                  · rw [if_pos c98] at h
                    refine lv_iconst (v := 0) hx hb d_MD_face_165 (by decide) ?_
                    exact W.zret hx hb hr rfl (fun t ht _ => ⟨_, rfl, Option.some.inj h, ht⟩) (fun _ hq => nomatch hq) d_MD_face_166
                  · rw [if_neg c98] at h
                    refine lv_lload hx hb d_MD_face_148 (lv_at hl 1 rfl) ?_
                    refine lv_lload hx hb d_MD_face_150 (lv_at hl 3 rfl) ?_
                    refine W.lcmp hx hb d_MD_face_152 ?_
                    refine lv_if_le (tgt := 161) hx hb d_MD_face_153 (by decide) (fun c99 => ?_) (fun c99 => ?_)
                    · rw [if_pos c99] at h
                      refine lv_iconst (v := 1) hx hb d_MD_face_161 (by decide) ?_
                      refine lv_goto (tgt := 166) hx hb d_MD_face_162 (by decide) ?_
                      exact W.zret hx hb hr rfl (fun t ht _ => ⟨_, rfl, Option.some.inj h, ht⟩) (fun _ hq => nomatch hq) d_MD_face_166
                    · rw [if_neg c99] at h
                      refine lv_iload hx hb d_MD_face_156 (lv_at hl 0 rfl) ?_
                      refine lv_if_eq (tgt := 165) hx hb d_MD_face_158 (by decide) (fun c100 => ?_) (fun c100 => ?_)
                      · rw [if_pos c100] at h
                        refine lv_iconst (v := 0) hx hb d_MD_face_165 (by decide) ?_
                        exact W.zret hx hb hr rfl (fun t ht _ => ⟨_, rfl, Option.some.inj h, ht⟩) (fun _ hq => nomatch hq) d_MD_face_166
                      · rw [if_neg c100] at h
                        refine lv_iconst (v := 1) hx hb d_MD_face_161 (by decide) ?_
                        refine lv_goto (tgt := 166) hx hb d_MD_face_162 (by decide) ?_
                        exact W.zret hx hb hr rfl (fun t ht _ => ⟨_, rfl, Option.some.inj h, ht⟩) (fun _ hq => nomatch hq) d_MD_face_166
                exact k138 x8 x10 x12 s0 0 h _ (lv_sub hl [2, 3, 4, 1] rfl)
              · rw [if_neg c94] at h
                refine lv_iconst (v := 1) hx hb d_MD_face_133 (by decide) ?_
                refine lv_goto (tgt := 138) hx hb d_MD_face_134 (by decide) ?_
                have k138 : ∀ (x8 : Int64) (x10 : Int64) (x12 : Int64) (x14 : Int64) (s0 : Int32) (h : C_MD_face_138 σ x8 x10 x12 x14 s0 = some out) (ls : Array Slot) (hl : lv_has ls 19 [(8, .long x8), (10, .long x10), (12, .long x12), (14, .long x14)]), W p l e (headSpec wl_MD_face ({ frames := 0, cells := 0, slots := 0, locals := 0 } : Room)).room s m (([.long a0, .long a2, .long a4, .long a6] : List Value).toArray) below meth c s.heap [] 0 0 (MQ below (vp_Si (fun r => r = out)) (([.long a0, .long a2, .long a4, .long a6] : List Value).toArray) s 0 0 (fun _ => False)) (F0 m 138 ls [.int s0]) := by
                  intro x8 x10 x12 x14 s0 h ls hl
                  unfold C_MD_face_138 at h
                  refine lv_istore (lv' := [(18, .int s0), (8, .long x8), (10, .long x10), (12, .long x12), (14, .long x14)]) hx hb d_MD_face_138 hl (by decide) rfl (fun ls hl => ?_)
                  refine lv_lload hx hb d_MD_face_140 (lv_at hl 2 rfl) ?_
                  refine lv_lload hx hb d_MD_face_142 (lv_at hl 4 rfl) ?_
                  refine W.lcmp hx hb d_MD_face_144 ?_
                  refine lv_if_gt (tgt := 165) hx hb d_MD_face_145 (by decide) (fun c95 => ?_) (fun c95 => ?_)
                  · rw [if_pos c95] at h
                    refine lv_iconst (v := 0) hx hb d_MD_face_165 (by decide) ?_
                    exact W.zret hx hb hr rfl (fun t ht _ => ⟨_, rfl, Option.some.inj h, ht⟩) (fun _ hq => nomatch hq) d_MD_face_166
                  · rw [if_neg c95] at h
                    refine lv_lload hx hb d_MD_face_148 (lv_at hl 1 rfl) ?_
                    refine lv_lload hx hb d_MD_face_150 (lv_at hl 3 rfl) ?_
                    refine W.lcmp hx hb d_MD_face_152 ?_
                    refine lv_if_le (tgt := 161) hx hb d_MD_face_153 (by decide) (fun c96 => ?_) (fun c96 => ?_)
                    · rw [if_pos c96] at h
                      refine lv_iconst (v := 1) hx hb d_MD_face_161 (by decide) ?_
                      refine lv_goto (tgt := 166) hx hb d_MD_face_162 (by decide) ?_
                      exact W.zret hx hb hr rfl (fun t ht _ => ⟨_, rfl, Option.some.inj h, ht⟩) (fun _ hq => nomatch hq) d_MD_face_166
                    · rw [if_neg c96] at h
                      refine lv_iload hx hb d_MD_face_156 (lv_at hl 0 rfl) ?_
                      refine lv_if_eq (tgt := 165) hx hb d_MD_face_158 (by decide) (fun c97 => ?_) (fun c97 => ?_)
                      · rw [if_pos c97] at h
                        refine lv_iconst (v := 0) hx hb d_MD_face_165 (by decide) ?_
                        exact W.zret hx hb hr rfl (fun t ht _ => ⟨_, rfl, Option.some.inj h, ht⟩) (fun _ hq => nomatch hq) d_MD_face_166
                      · rw [if_neg c97] at h
                        refine lv_iconst (v := 1) hx hb d_MD_face_161 (by decide) ?_
                        refine lv_goto (tgt := 166) hx hb d_MD_face_162 (by decide) ?_
                        exact W.zret hx hb hr rfl (fun t ht _ => ⟨_, rfl, Option.some.inj h, ht⟩) (fun _ hq => nomatch hq) d_MD_face_166
                exact k138 x8 x10 x12 s0 1 h _ (lv_sub hl [2, 3, 4, 1] rfl)
            exact k58 x8 s0 x6 x6 h _ (lv_sub hl [4, 1, 0] rfl)
        · rw [if_neg c74] at h
          refine lv_lload hx hb d_MD_face_34 (lv_at hl 1 rfl) ?_
          refine lv_goto (tgt := 41) hx hb d_MD_face_36 (by decide) ?_
          refine lv_lstore (lv' := [(12, .long x4), (10, .long s0), (4, .long x4), (6, .long x6), (8, .long x8)]) hx hb d_MD_face_41 hl (by decide) rfl (fun ls hl => ?_)
          refine lv_lload hx hb d_MD_face_43 (lv_at hl 2 rfl) ?_
          refine lv_lload hx hb d_MD_face_45 (lv_at hl 3 rfl) ?_
          refine W.lcmp hx hb d_MD_face_47 ?_
          refine lv_if_le (tgt := 56) hx hb d_MD_face_48 (by decide) (fun c75 => ?_) (fun c75 => ?_)
          · rw [if_pos c75] at h
            refine lv_lload hx hb d_MD_face_56 (lv_at hl 2 rfl) ?_
            have k58 : ∀ (x8 : Int64) (x10 : Int64) (x12 : Int64) (s0 : Int64) (h : C_MD_face_58 σ x8 x10 x12 s0 = some out) (ls : Array Slot) (hl : lv_has ls 19 [(8, .long x8), (10, .long x10), (12, .long x12)]), W p l e (headSpec wl_MD_face ({ frames := 0, cells := 0, slots := 0, locals := 0 } : Room)).room s m (([.long a0, .long a2, .long a4, .long a6] : List Value).toArray) below meth c s.heap [] 0 0 (MQ below (vp_Si (fun r => r = out)) (([.long a0, .long a2, .long a4, .long a6] : List Value).toArray) s 0 0 (fun _ => False)) (F0 m 58 ls [.long s0]) := by
              intro x8 x10 x12 s0 h ls hl
              unfold C_MD_face_58 at h
              refine lv_lstore (lv' := [(14, .long s0), (8, .long x8), (10, .long x10), (12, .long x12)]) hx hb d_MD_face_58 hl (by decide) rfl (fun ls hl => ?_)
              refine lv_lload hx hb d_MD_face_60 (lv_at hl 1 rfl) ?_
              refine lv_lload hx hb d_MD_face_62 (lv_at hl 1 rfl) ?_
              refine lv_lmul hx hb d_MD_face_64 ?_
              refine lv_lload hx hb d_MD_face_65 (lv_at hl 2 rfl) ?_
              refine lv_lload hx hb d_MD_face_67 (lv_at hl 2 rfl) ?_
              refine lv_lmul hx hb d_MD_face_69 ?_
              refine lv_lsub hx hb d_MD_face_70 ?_
              obtain ⟨y84, e_y84, h⟩ := lt1_some h
              refine W.eq (g2 := F0 m 71 ls (.long y84 :: [])) (by rw [e_y84]) ?_
              refine lv_lstore (lv' := [(16, .long y84), (14, .long s0), (8, .long x8), (10, .long x10), (12, .long x12)]) hx hb d_MD_face_71 hl (by decide) rfl (fun ls hl => ?_)
              refine lv_lload hx hb d_MD_face_73 (lv_at hl 4 rfl) ?_
              refine lv_lload hx hb d_MD_face_75 (lv_at hl 1 rfl) ?_
              refine lv_ladd hx hb d_MD_face_77 ?_
              refine lv_lload hx hb d_MD_face_78 (lv_at hl 4 rfl) ?_
              refine lv_lload hx hb d_MD_face_80 (lv_at hl 1 rfl) ?_
              refine lv_ladd hx hb d_MD_face_82 ?_
              refine lv_lmul hx hb d_MD_face_83 ?_
              refine lv_lload hx hb d_MD_face_84 (lv_at hl 2 rfl) ?_
              refine lv_lload hx hb d_MD_face_86 (lv_at hl 3 rfl) ?_
              refine lv_lsub hx hb d_MD_face_88 ?_
              refine lv_lmul hx hb d_MD_face_89 ?_
              refine lv_lload hx hb d_MD_face_90 (lv_at hl 2 rfl) ?_
              refine lv_lload hx hb d_MD_face_92 (lv_at hl 3 rfl) ?_
              refine lv_lsub hx hb d_MD_face_94 ?_
              refine lv_lmul hx hb d_MD_face_95 ?_
              refine lv_lload hx hb d_MD_face_96 (lv_at hl 4 rfl) ?_
              refine lv_lload hx hb d_MD_face_98 (lv_at hl 1 rfl) ?_
              refine lv_lsub hx hb d_MD_face_100 ?_
              refine lv_lload hx hb d_MD_face_101 (lv_at hl 4 rfl) ?_
              refine lv_lload hx hb d_MD_face_103 (lv_at hl 1 rfl) ?_
              refine lv_lsub hx hb d_MD_face_105 ?_
              refine lv_lmul hx hb d_MD_face_106 ?_
              refine lv_lload hx hb d_MD_face_107 (lv_at hl 2 rfl) ?_
              refine lv_lload hx hb d_MD_face_109 (lv_at hl 3 rfl) ?_
              refine lv_ladd hx hb d_MD_face_111 ?_
              refine lv_lmul hx hb d_MD_face_112 ?_
              refine lv_lload hx hb d_MD_face_113 (lv_at hl 2 rfl) ?_
              refine lv_lload hx hb d_MD_face_115 (lv_at hl 3 rfl) ?_
              refine lv_ladd hx hb d_MD_face_117 ?_
              refine lv_lmul hx hb d_MD_face_118 ?_
              refine lv_ladd hx hb d_MD_face_119 ?_
              refine lv_ldc2 (v := 2) hx hb hown (hts _ w_835) d_MD_face_120 ?_
              refine lv_lload hx hb d_MD_face_123 (lv_at hl 0 rfl) ?_
              refine lv_lmul hx hb d_MD_face_125 ?_
              refine lv_lload hx hb d_MD_face_126 (lv_at hl 0 rfl) ?_
              refine lv_lmul hx hb d_MD_face_128 ?_
              refine W.lcmp hx hb d_MD_face_129 ?_
              refine lv_if_lt (tgt := 137) hx hb d_MD_face_130 (by decide) (fun c85 => ?_) (fun c85 => ?_)
              · rw [if_pos c85] at h
                refine lv_iconst (v := 0) hx hb d_MD_face_137 (by decide) ?_
                have k138 : ∀ (x8 : Int64) (x10 : Int64) (x12 : Int64) (x14 : Int64) (s0 : Int32) (h : C_MD_face_138 σ x8 x10 x12 x14 s0 = some out) (ls : Array Slot) (hl : lv_has ls 19 [(8, .long x8), (10, .long x10), (12, .long x12), (14, .long x14)]), W p l e (headSpec wl_MD_face ({ frames := 0, cells := 0, slots := 0, locals := 0 } : Room)).room s m (([.long a0, .long a2, .long a4, .long a6] : List Value).toArray) below meth c s.heap [] 0 0 (MQ below (vp_Si (fun r => r = out)) (([.long a0, .long a2, .long a4, .long a6] : List Value).toArray) s 0 0 (fun _ => False)) (F0 m 138 ls [.int s0]) := by
                  intro x8 x10 x12 x14 s0 h ls hl
                  unfold C_MD_face_138 at h
                  refine lv_istore (lv' := [(18, .int s0), (8, .long x8), (10, .long x10), (12, .long x12), (14, .long x14)]) hx hb d_MD_face_138 hl (by decide) rfl (fun ls hl => ?_)
                  refine lv_lload hx hb d_MD_face_140 (lv_at hl 2 rfl) ?_
                  refine lv_lload hx hb d_MD_face_142 (lv_at hl 4 rfl) ?_
                  refine W.lcmp hx hb d_MD_face_144 ?_
                  refine lv_if_gt (tgt := 165) hx hb d_MD_face_145 (by decide) (fun c89 => ?_) (fun c89 => ?_)
                  · rw [if_pos c89] at h
                    refine lv_iconst (v := 0) hx hb d_MD_face_165 (by decide) ?_
                    exact W.zret hx hb hr rfl (fun t ht _ => ⟨_, rfl, Option.some.inj h, ht⟩) (fun _ hq => nomatch hq) d_MD_face_166
                  · rw [if_neg c89] at h
                    refine lv_lload hx hb d_MD_face_148 (lv_at hl 1 rfl) ?_
                    refine lv_lload hx hb d_MD_face_150 (lv_at hl 3 rfl) ?_
                    refine W.lcmp hx hb d_MD_face_152 ?_
                    refine lv_if_le (tgt := 161) hx hb d_MD_face_153 (by decide) (fun c90 => ?_) (fun c90 => ?_)
                    · rw [if_pos c90] at h
                      refine lv_iconst (v := 1) hx hb d_MD_face_161 (by decide) ?_
                      refine lv_goto (tgt := 166) hx hb d_MD_face_162 (by decide) ?_
                      exact W.zret hx hb hr rfl (fun t ht _ => ⟨_, rfl, Option.some.inj h, ht⟩) (fun _ hq => nomatch hq) d_MD_face_166
                    · rw [if_neg c90] at h
                      refine lv_iload hx hb d_MD_face_156 (lv_at hl 0 rfl) ?_
                      refine lv_if_eq (tgt := 165) hx hb d_MD_face_158 (by decide) (fun c91 => ?_) (fun c91 => ?_)
                      · rw [if_pos c91] at h
                        refine lv_iconst (v := 0) hx hb d_MD_face_165 (by decide) ?_
                        exact W.zret hx hb hr rfl (fun t ht _ => ⟨_, rfl, Option.some.inj h, ht⟩) (fun _ hq => nomatch hq) d_MD_face_166
                      · rw [if_neg c91] at h
                        refine lv_iconst (v := 1) hx hb d_MD_face_161 (by decide) ?_
                        refine lv_goto (tgt := 166) hx hb d_MD_face_162 (by decide) ?_
                        exact W.zret hx hb hr rfl (fun t ht _ => ⟨_, rfl, Option.some.inj h, ht⟩) (fun _ hq => nomatch hq) d_MD_face_166
                exact k138 x8 x10 x12 s0 0 h _ (lv_sub hl [2, 3, 4, 1] rfl)
              · rw [if_neg c85] at h
                refine lv_iconst (v := 1) hx hb d_MD_face_133 (by decide) ?_
                refine lv_goto (tgt := 138) hx hb d_MD_face_134 (by decide) ?_
                have k138 : ∀ (x8 : Int64) (x10 : Int64) (x12 : Int64) (x14 : Int64) (s0 : Int32) (h : C_MD_face_138 σ x8 x10 x12 x14 s0 = some out) (ls : Array Slot) (hl : lv_has ls 19 [(8, .long x8), (10, .long x10), (12, .long x12), (14, .long x14)]), W p l e (headSpec wl_MD_face ({ frames := 0, cells := 0, slots := 0, locals := 0 } : Room)).room s m (([.long a0, .long a2, .long a4, .long a6] : List Value).toArray) below meth c s.heap [] 0 0 (MQ below (vp_Si (fun r => r = out)) (([.long a0, .long a2, .long a4, .long a6] : List Value).toArray) s 0 0 (fun _ => False)) (F0 m 138 ls [.int s0]) := by
                  intro x8 x10 x12 x14 s0 h ls hl
                  unfold C_MD_face_138 at h
                  refine lv_istore (lv' := [(18, .int s0), (8, .long x8), (10, .long x10), (12, .long x12), (14, .long x14)]) hx hb d_MD_face_138 hl (by decide) rfl (fun ls hl => ?_)
                  refine lv_lload hx hb d_MD_face_140 (lv_at hl 2 rfl) ?_
                  refine lv_lload hx hb d_MD_face_142 (lv_at hl 4 rfl) ?_
                  refine W.lcmp hx hb d_MD_face_144 ?_
                  refine lv_if_gt (tgt := 165) hx hb d_MD_face_145 (by decide) (fun c86 => ?_) (fun c86 => ?_)
                  · rw [if_pos c86] at h
                    refine lv_iconst (v := 0) hx hb d_MD_face_165 (by decide) ?_
                    exact W.zret hx hb hr rfl (fun t ht _ => ⟨_, rfl, Option.some.inj h, ht⟩) (fun _ hq => nomatch hq) d_MD_face_166
                  · rw [if_neg c86] at h
                    refine lv_lload hx hb d_MD_face_148 (lv_at hl 1 rfl) ?_
                    refine lv_lload hx hb d_MD_face_150 (lv_at hl 3 rfl) ?_
                    refine W.lcmp hx hb d_MD_face_152 ?_
                    refine lv_if_le (tgt := 161) hx hb d_MD_face_153 (by decide) (fun c87 => ?_) (fun c87 => ?_)
                    · rw [if_pos c87] at h
                      refine lv_iconst (v := 1) hx hb d_MD_face_161 (by decide) ?_
                      refine lv_goto (tgt := 166) hx hb d_MD_face_162 (by decide) ?_
                      exact W.zret hx hb hr rfl (fun t ht _ => ⟨_, rfl, Option.some.inj h, ht⟩) (fun _ hq => nomatch hq) d_MD_face_166
                    · rw [if_neg c87] at h
                      refine lv_iload hx hb d_MD_face_156 (lv_at hl 0 rfl) ?_
                      refine lv_if_eq (tgt := 165) hx hb d_MD_face_158 (by decide) (fun c88 => ?_) (fun c88 => ?_)
                      · rw [if_pos c88] at h
                        refine lv_iconst (v := 0) hx hb d_MD_face_165 (by decide) ?_
                        exact W.zret hx hb hr rfl (fun t ht _ => ⟨_, rfl, Option.some.inj h, ht⟩) (fun _ hq => nomatch hq) d_MD_face_166
                      · rw [if_neg c88] at h
                        refine lv_iconst (v := 1) hx hb d_MD_face_161 (by decide) ?_
                        refine lv_goto (tgt := 166) hx hb d_MD_face_162 (by decide) ?_
                        exact W.zret hx hb hr rfl (fun t ht _ => ⟨_, rfl, Option.some.inj h, ht⟩) (fun _ hq => nomatch hq) d_MD_face_166
                exact k138 x8 x10 x12 s0 1 h _ (lv_sub hl [2, 3, 4, 1] rfl)
            exact k58 x8 s0 x4 x4 h _ (lv_sub hl [4, 1, 0] rfl)
          · rw [if_neg c75] at h
            refine lv_lload hx hb d_MD_face_51 (lv_at hl 3 rfl) ?_
            refine lv_goto (tgt := 58) hx hb d_MD_face_53 (by decide) ?_
            have k58 : ∀ (x8 : Int64) (x10 : Int64) (x12 : Int64) (s0 : Int64) (h : C_MD_face_58 σ x8 x10 x12 s0 = some out) (ls : Array Slot) (hl : lv_has ls 19 [(8, .long x8), (10, .long x10), (12, .long x12)]), W p l e (headSpec wl_MD_face ({ frames := 0, cells := 0, slots := 0, locals := 0 } : Room)).room s m (([.long a0, .long a2, .long a4, .long a6] : List Value).toArray) below meth c s.heap [] 0 0 (MQ below (vp_Si (fun r => r = out)) (([.long a0, .long a2, .long a4, .long a6] : List Value).toArray) s 0 0 (fun _ => False)) (F0 m 58 ls [.long s0]) := by
              intro x8 x10 x12 s0 h ls hl
              unfold C_MD_face_58 at h
              refine lv_lstore (lv' := [(14, .long s0), (8, .long x8), (10, .long x10), (12, .long x12)]) hx hb d_MD_face_58 hl (by decide) rfl (fun ls hl => ?_)
              refine lv_lload hx hb d_MD_face_60 (lv_at hl 1 rfl) ?_
              refine lv_lload hx hb d_MD_face_62 (lv_at hl 1 rfl) ?_
              refine lv_lmul hx hb d_MD_face_64 ?_
              refine lv_lload hx hb d_MD_face_65 (lv_at hl 2 rfl) ?_
              refine lv_lload hx hb d_MD_face_67 (lv_at hl 2 rfl) ?_
              refine lv_lmul hx hb d_MD_face_69 ?_
              refine lv_lsub hx hb d_MD_face_70 ?_
              obtain ⟨y76, e_y76, h⟩ := lt1_some h
              refine W.eq (g2 := F0 m 71 ls (.long y76 :: [])) (by rw [e_y76]) ?_
              refine lv_lstore (lv' := [(16, .long y76), (14, .long s0), (8, .long x8), (10, .long x10), (12, .long x12)]) hx hb d_MD_face_71 hl (by decide) rfl (fun ls hl => ?_)
              refine lv_lload hx hb d_MD_face_73 (lv_at hl 4 rfl) ?_
              refine lv_lload hx hb d_MD_face_75 (lv_at hl 1 rfl) ?_
              refine lv_ladd hx hb d_MD_face_77 ?_
              refine lv_lload hx hb d_MD_face_78 (lv_at hl 4 rfl) ?_
              refine lv_lload hx hb d_MD_face_80 (lv_at hl 1 rfl) ?_
              refine lv_ladd hx hb d_MD_face_82 ?_
              refine lv_lmul hx hb d_MD_face_83 ?_
              refine lv_lload hx hb d_MD_face_84 (lv_at hl 2 rfl) ?_
              refine lv_lload hx hb d_MD_face_86 (lv_at hl 3 rfl) ?_
              refine lv_lsub hx hb d_MD_face_88 ?_
              refine lv_lmul hx hb d_MD_face_89 ?_
              refine lv_lload hx hb d_MD_face_90 (lv_at hl 2 rfl) ?_
              refine lv_lload hx hb d_MD_face_92 (lv_at hl 3 rfl) ?_
              refine lv_lsub hx hb d_MD_face_94 ?_
              refine lv_lmul hx hb d_MD_face_95 ?_
              refine lv_lload hx hb d_MD_face_96 (lv_at hl 4 rfl) ?_
              refine lv_lload hx hb d_MD_face_98 (lv_at hl 1 rfl) ?_
              refine lv_lsub hx hb d_MD_face_100 ?_
              refine lv_lload hx hb d_MD_face_101 (lv_at hl 4 rfl) ?_
              refine lv_lload hx hb d_MD_face_103 (lv_at hl 1 rfl) ?_
              refine lv_lsub hx hb d_MD_face_105 ?_
              refine lv_lmul hx hb d_MD_face_106 ?_
              refine lv_lload hx hb d_MD_face_107 (lv_at hl 2 rfl) ?_
              refine lv_lload hx hb d_MD_face_109 (lv_at hl 3 rfl) ?_
              refine lv_ladd hx hb d_MD_face_111 ?_
              refine lv_lmul hx hb d_MD_face_112 ?_
              refine lv_lload hx hb d_MD_face_113 (lv_at hl 2 rfl) ?_
              refine lv_lload hx hb d_MD_face_115 (lv_at hl 3 rfl) ?_
              refine lv_ladd hx hb d_MD_face_117 ?_
              refine lv_lmul hx hb d_MD_face_118 ?_
              refine lv_ladd hx hb d_MD_face_119 ?_
              refine lv_ldc2 (v := 2) hx hb hown (hts _ w_835) d_MD_face_120 ?_
              refine lv_lload hx hb d_MD_face_123 (lv_at hl 0 rfl) ?_
              refine lv_lmul hx hb d_MD_face_125 ?_
              refine lv_lload hx hb d_MD_face_126 (lv_at hl 0 rfl) ?_
              refine lv_lmul hx hb d_MD_face_128 ?_
              refine W.lcmp hx hb d_MD_face_129 ?_
              refine lv_if_lt (tgt := 137) hx hb d_MD_face_130 (by decide) (fun c77 => ?_) (fun c77 => ?_)
              · rw [if_pos c77] at h
                refine lv_iconst (v := 0) hx hb d_MD_face_137 (by decide) ?_
                have k138 : ∀ (x8 : Int64) (x10 : Int64) (x12 : Int64) (x14 : Int64) (s0 : Int32) (h : C_MD_face_138 σ x8 x10 x12 x14 s0 = some out) (ls : Array Slot) (hl : lv_has ls 19 [(8, .long x8), (10, .long x10), (12, .long x12), (14, .long x14)]), W p l e (headSpec wl_MD_face ({ frames := 0, cells := 0, slots := 0, locals := 0 } : Room)).room s m (([.long a0, .long a2, .long a4, .long a6] : List Value).toArray) below meth c s.heap [] 0 0 (MQ below (vp_Si (fun r => r = out)) (([.long a0, .long a2, .long a4, .long a6] : List Value).toArray) s 0 0 (fun _ => False)) (F0 m 138 ls [.int s0]) := by
                  intro x8 x10 x12 x14 s0 h ls hl
                  unfold C_MD_face_138 at h
                  refine lv_istore (lv' := [(18, .int s0), (8, .long x8), (10, .long x10), (12, .long x12), (14, .long x14)]) hx hb d_MD_face_138 hl (by decide) rfl (fun ls hl => ?_)
                  refine lv_lload hx hb d_MD_face_140 (lv_at hl 2 rfl) ?_
                  refine lv_lload hx hb d_MD_face_142 (lv_at hl 4 rfl) ?_
                  refine W.lcmp hx hb d_MD_face_144 ?_
                  refine lv_if_gt (tgt := 165) hx hb d_MD_face_145 (by decide) (fun c81 => ?_) (fun c81 => ?_)
                  · rw [if_pos c81] at h
                    refine lv_iconst (v := 0) hx hb d_MD_face_165 (by decide) ?_
                    exact W.zret hx hb hr rfl (fun t ht _ => ⟨_, rfl, Option.some.inj h, ht⟩) (fun _ hq => nomatch hq) d_MD_face_166
                  · rw [if_neg c81] at h
                    refine lv_lload hx hb d_MD_face_148 (lv_at hl 1 rfl) ?_
                    refine lv_lload hx hb d_MD_face_150 (lv_at hl 3 rfl) ?_
                    refine W.lcmp hx hb d_MD_face_152 ?_
                    refine lv_if_le (tgt := 161) hx hb d_MD_face_153 (by decide) (fun c82 => ?_) (fun c82 => ?_)
                    · rw [if_pos c82] at h
                      refine lv_iconst (v := 1) hx hb d_MD_face_161 (by decide) ?_
                      refine lv_goto (tgt := 166) hx hb d_MD_face_162 (by decide) ?_
                      exact W.zret hx hb hr rfl (fun t ht _ => ⟨_, rfl, Option.some.inj h, ht⟩) (fun _ hq => nomatch hq) d_MD_face_166
                    · rw [if_neg c82] at h
                      refine lv_iload hx hb d_MD_face_156 (lv_at hl 0 rfl) ?_
                      refine lv_if_eq (tgt := 165) hx hb d_MD_face_158 (by decide) (fun c83 => ?_) (fun c83 => ?_)
                      · rw [if_pos c83] at h
                        refine lv_iconst (v := 0) hx hb d_MD_face_165 (by decide) ?_
                        exact W.zret hx hb hr rfl (fun t ht _ => ⟨_, rfl, Option.some.inj h, ht⟩) (fun _ hq => nomatch hq) d_MD_face_166
                      · rw [if_neg c83] at h
                        refine lv_iconst (v := 1) hx hb d_MD_face_161 (by decide) ?_
                        refine lv_goto (tgt := 166) hx hb d_MD_face_162 (by decide) ?_
                        exact W.zret hx hb hr rfl (fun t ht _ => ⟨_, rfl, Option.some.inj h, ht⟩) (fun _ hq => nomatch hq) d_MD_face_166
                exact k138 x8 x10 x12 s0 0 h _ (lv_sub hl [2, 3, 4, 1] rfl)
              · rw [if_neg c77] at h
                refine lv_iconst (v := 1) hx hb d_MD_face_133 (by decide) ?_
                refine lv_goto (tgt := 138) hx hb d_MD_face_134 (by decide) ?_
                have k138 : ∀ (x8 : Int64) (x10 : Int64) (x12 : Int64) (x14 : Int64) (s0 : Int32) (h : C_MD_face_138 σ x8 x10 x12 x14 s0 = some out) (ls : Array Slot) (hl : lv_has ls 19 [(8, .long x8), (10, .long x10), (12, .long x12), (14, .long x14)]), W p l e (headSpec wl_MD_face ({ frames := 0, cells := 0, slots := 0, locals := 0 } : Room)).room s m (([.long a0, .long a2, .long a4, .long a6] : List Value).toArray) below meth c s.heap [] 0 0 (MQ below (vp_Si (fun r => r = out)) (([.long a0, .long a2, .long a4, .long a6] : List Value).toArray) s 0 0 (fun _ => False)) (F0 m 138 ls [.int s0]) := by
                  intro x8 x10 x12 x14 s0 h ls hl
                  unfold C_MD_face_138 at h
                  refine lv_istore (lv' := [(18, .int s0), (8, .long x8), (10, .long x10), (12, .long x12), (14, .long x14)]) hx hb d_MD_face_138 hl (by decide) rfl (fun ls hl => ?_)
                  refine lv_lload hx hb d_MD_face_140 (lv_at hl 2 rfl) ?_
                  refine lv_lload hx hb d_MD_face_142 (lv_at hl 4 rfl) ?_
                  refine W.lcmp hx hb d_MD_face_144 ?_
                  refine lv_if_gt (tgt := 165) hx hb d_MD_face_145 (by decide) (fun c78 => ?_) (fun c78 => ?_)
                  · rw [if_pos c78] at h
                    refine lv_iconst (v := 0) hx hb d_MD_face_165 (by decide) ?_
                    exact W.zret hx hb hr rfl (fun t ht _ => ⟨_, rfl, Option.some.inj h, ht⟩) (fun _ hq => nomatch hq) d_MD_face_166
                  · rw [if_neg c78] at h
                    refine lv_lload hx hb d_MD_face_148 (lv_at hl 1 rfl) ?_
                    refine lv_lload hx hb d_MD_face_150 (lv_at hl 3 rfl) ?_
                    refine W.lcmp hx hb d_MD_face_152 ?_
                    refine lv_if_le (tgt := 161) hx hb d_MD_face_153 (by decide) (fun c79 => ?_) (fun c79 => ?_)
                    · rw [if_pos c79] at h
                      refine lv_iconst (v := 1) hx hb d_MD_face_161 (by decide) ?_
                      refine lv_goto (tgt := 166) hx hb d_MD_face_162 (by decide) ?_
                      exact W.zret hx hb hr rfl (fun t ht _ => ⟨_, rfl, Option.some.inj h, ht⟩) (fun _ hq => nomatch hq) d_MD_face_166
                    · rw [if_neg c79] at h
                      refine lv_iload hx hb d_MD_face_156 (lv_at hl 0 rfl) ?_
                      refine lv_if_eq (tgt := 165) hx hb d_MD_face_158 (by decide) (fun c80 => ?_) (fun c80 => ?_)
                      · rw [if_pos c80] at h
                        refine lv_iconst (v := 0) hx hb d_MD_face_165 (by decide) ?_
                        exact W.zret hx hb hr rfl (fun t ht _ => ⟨_, rfl, Option.some.inj h, ht⟩) (fun _ hq => nomatch hq) d_MD_face_166
                      · rw [if_neg c80] at h
                        refine lv_iconst (v := 1) hx hb d_MD_face_161 (by decide) ?_
                        refine lv_goto (tgt := 166) hx hb d_MD_face_162 (by decide) ?_
                        exact W.zret hx hb hr rfl (fun t ht _ => ⟨_, rfl, Option.some.inj h, ht⟩) (fun _ hq => nomatch hq) d_MD_face_166
                exact k138 x8 x10 x12 s0 1 h _ (lv_sub hl [2, 3, 4, 1] rfl)
            exact k58 x8 s0 x4 x6 h _ (lv_sub hl [4, 1, 0] rfl)
      exact k24 a4 a6 a2 a2 h _ (lv_sub hl [3, 4, 0] rfl)
  · rw [if_neg c1] at h
    refine lv_lload_n hx hb d_MD_face_6 rfl (lv_at hl 0 rfl) ?_
    refine lv_goto (tgt := 11) hx hb d_MD_face_7 (by decide) ?_
    refine lv_lstore (lv' := [(8, .long a0), (0, .long a0), (2, .long a2), (4, .long a4), (6, .long a6)]) hx hb d_MD_face_11 hl (by decide) rfl (fun ls hl => ?_)
    refine lv_lload_n hx hb d_MD_face_13 rfl (lv_at hl 1 rfl) ?_
    refine lv_lload_n hx hb d_MD_face_14 rfl (lv_at hl 2 rfl) ?_
    refine W.lcmp hx hb d_MD_face_15 ?_
    refine lv_if_le (tgt := 23) hx hb d_MD_face_16 (by decide) (fun c2 => ?_) (fun c2 => ?_)
    · rw [if_pos c2] at h
      refine lv_lload_n hx hb d_MD_face_23 rfl (lv_at hl 1 rfl) ?_
      have k24 : ∀ (x4 : Int64) (x6 : Int64) (x8 : Int64) (s0 : Int64) (h : C_MD_face_24 σ x4 x6 x8 s0 = some out) (ls : Array Slot) (hl : lv_has ls 19 [(4, .long x4), (6, .long x6), (8, .long x8)]), W p l e (headSpec wl_MD_face ({ frames := 0, cells := 0, slots := 0, locals := 0 } : Room)).room s m (([.long a0, .long a2, .long a4, .long a6] : List Value).toArray) below meth c s.heap [] 0 0 (MQ below (vp_Si (fun r => r = out)) (([.long a0, .long a2, .long a4, .long a6] : List Value).toArray) s 0 0 (fun _ => False)) (F0 m 24 ls [.long s0]) := by
        intro x4 x6 x8 s0 h ls hl
        unfold C_MD_face_24 at h
        refine lv_lstore (lv' := [(10, .long s0), (4, .long x4), (6, .long x6), (8, .long x8)]) hx hb d_MD_face_24 hl (by decide) rfl (fun ls hl => ?_)
        refine lv_lload hx hb d_MD_face_26 (lv_at hl 1 rfl) ?_
        refine lv_lload hx hb d_MD_face_28 (lv_at hl 2 rfl) ?_
        refine W.lcmp hx hb d_MD_face_30 ?_
        refine lv_if_le (tgt := 39) hx hb d_MD_face_31 (by decide) (fun c38 => ?_) (fun c38 => ?_)
        · rw [if_pos c38] at h
          refine lv_lload hx hb d_MD_face_39 (lv_at hl 2 rfl) ?_
          refine lv_lstore (lv' := [(12, .long x6), (10, .long s0), (4, .long x4), (6, .long x6), (8, .long x8)]) hx hb d_MD_face_41 hl (by decide) rfl (fun ls hl => ?_)
          refine lv_lload hx hb d_MD_face_43 (lv_at hl 2 rfl) ?_
          refine lv_lload hx hb d_MD_face_45 (lv_at hl 3 rfl) ?_
          refine W.lcmp hx hb d_MD_face_47 ?_
          refine lv_if_le (tgt := 56) hx hb d_MD_face_48 (by decide) (fun c56 => ?_) (fun c56 => ?_)
          · rw [if_pos c56] at h
            refine lv_lload hx hb d_MD_face_56 (lv_at hl 2 rfl) ?_
            have k58 : ∀ (x8 : Int64) (x10 : Int64) (x12 : Int64) (s0 : Int64) (h : C_MD_face_58 σ x8 x10 x12 s0 = some out) (ls : Array Slot) (hl : lv_has ls 19 [(8, .long x8), (10, .long x10), (12, .long x12)]), W p l e (headSpec wl_MD_face ({ frames := 0, cells := 0, slots := 0, locals := 0 } : Room)).room s m (([.long a0, .long a2, .long a4, .long a6] : List Value).toArray) below meth c s.heap [] 0 0 (MQ below (vp_Si (fun r => r = out)) (([.long a0, .long a2, .long a4, .long a6] : List Value).toArray) s 0 0 (fun _ => False)) (F0 m 58 ls [.long s0]) := by
              intro x8 x10 x12 s0 h ls hl
              unfold C_MD_face_58 at h
              refine lv_lstore (lv' := [(14, .long s0), (8, .long x8), (10, .long x10), (12, .long x12)]) hx hb d_MD_face_58 hl (by decide) rfl (fun ls hl => ?_)
              refine lv_lload hx hb d_MD_face_60 (lv_at hl 1 rfl) ?_
              refine lv_lload hx hb d_MD_face_62 (lv_at hl 1 rfl) ?_
              refine lv_lmul hx hb d_MD_face_64 ?_
              refine lv_lload hx hb d_MD_face_65 (lv_at hl 2 rfl) ?_
              refine lv_lload hx hb d_MD_face_67 (lv_at hl 2 rfl) ?_
              refine lv_lmul hx hb d_MD_face_69 ?_
              refine lv_lsub hx hb d_MD_face_70 ?_
              obtain ⟨y65, e_y65, h⟩ := lt1_some h
              refine W.eq (g2 := F0 m 71 ls (.long y65 :: [])) (by rw [e_y65]) ?_
              refine lv_lstore (lv' := [(16, .long y65), (14, .long s0), (8, .long x8), (10, .long x10), (12, .long x12)]) hx hb d_MD_face_71 hl (by decide) rfl (fun ls hl => ?_)
              refine lv_lload hx hb d_MD_face_73 (lv_at hl 4 rfl) ?_
              refine lv_lload hx hb d_MD_face_75 (lv_at hl 1 rfl) ?_
              refine lv_ladd hx hb d_MD_face_77 ?_
              refine lv_lload hx hb d_MD_face_78 (lv_at hl 4 rfl) ?_
              refine lv_lload hx hb d_MD_face_80 (lv_at hl 1 rfl) ?_
              refine lv_ladd hx hb d_MD_face_82 ?_
              refine lv_lmul hx hb d_MD_face_83 ?_
              refine lv_lload hx hb d_MD_face_84 (lv_at hl 2 rfl) ?_
              refine lv_lload hx hb d_MD_face_86 (lv_at hl 3 rfl) ?_
              refine lv_lsub hx hb d_MD_face_88 ?_
              refine lv_lmul hx hb d_MD_face_89 ?_
              refine lv_lload hx hb d_MD_face_90 (lv_at hl 2 rfl) ?_
              refine lv_lload hx hb d_MD_face_92 (lv_at hl 3 rfl) ?_
              refine lv_lsub hx hb d_MD_face_94 ?_
              refine lv_lmul hx hb d_MD_face_95 ?_
              refine lv_lload hx hb d_MD_face_96 (lv_at hl 4 rfl) ?_
              refine lv_lload hx hb d_MD_face_98 (lv_at hl 1 rfl) ?_
              refine lv_lsub hx hb d_MD_face_100 ?_
              refine lv_lload hx hb d_MD_face_101 (lv_at hl 4 rfl) ?_
              refine lv_lload hx hb d_MD_face_103 (lv_at hl 1 rfl) ?_
              refine lv_lsub hx hb d_MD_face_105 ?_
              refine lv_lmul hx hb d_MD_face_106 ?_
              refine lv_lload hx hb d_MD_face_107 (lv_at hl 2 rfl) ?_
              refine lv_lload hx hb d_MD_face_109 (lv_at hl 3 rfl) ?_
              refine lv_ladd hx hb d_MD_face_111 ?_
              refine lv_lmul hx hb d_MD_face_112 ?_
              refine lv_lload hx hb d_MD_face_113 (lv_at hl 2 rfl) ?_
              refine lv_lload hx hb d_MD_face_115 (lv_at hl 3 rfl) ?_
              refine lv_ladd hx hb d_MD_face_117 ?_
              refine lv_lmul hx hb d_MD_face_118 ?_
              refine lv_ladd hx hb d_MD_face_119 ?_
              refine lv_ldc2 (v := 2) hx hb hown (hts _ w_835) d_MD_face_120 ?_
              refine lv_lload hx hb d_MD_face_123 (lv_at hl 0 rfl) ?_
              refine lv_lmul hx hb d_MD_face_125 ?_
              refine lv_lload hx hb d_MD_face_126 (lv_at hl 0 rfl) ?_
              refine lv_lmul hx hb d_MD_face_128 ?_
              refine W.lcmp hx hb d_MD_face_129 ?_
              refine lv_if_lt (tgt := 137) hx hb d_MD_face_130 (by decide) (fun c66 => ?_) (fun c66 => ?_)
              · rw [if_pos c66] at h
                refine lv_iconst (v := 0) hx hb d_MD_face_137 (by decide) ?_
                have k138 : ∀ (x8 : Int64) (x10 : Int64) (x12 : Int64) (x14 : Int64) (s0 : Int32) (h : C_MD_face_138 σ x8 x10 x12 x14 s0 = some out) (ls : Array Slot) (hl : lv_has ls 19 [(8, .long x8), (10, .long x10), (12, .long x12), (14, .long x14)]), W p l e (headSpec wl_MD_face ({ frames := 0, cells := 0, slots := 0, locals := 0 } : Room)).room s m (([.long a0, .long a2, .long a4, .long a6] : List Value).toArray) below meth c s.heap [] 0 0 (MQ below (vp_Si (fun r => r = out)) (([.long a0, .long a2, .long a4, .long a6] : List Value).toArray) s 0 0 (fun _ => False)) (F0 m 138 ls [.int s0]) := by
                  intro x8 x10 x12 x14 s0 h ls hl
                  unfold C_MD_face_138 at h
                  refine lv_istore (lv' := [(18, .int s0), (8, .long x8), (10, .long x10), (12, .long x12), (14, .long x14)]) hx hb d_MD_face_138 hl (by decide) rfl (fun ls hl => ?_)
                  refine lv_lload hx hb d_MD_face_140 (lv_at hl 2 rfl) ?_
                  refine lv_lload hx hb d_MD_face_142 (lv_at hl 4 rfl) ?_
                  refine W.lcmp hx hb d_MD_face_144 ?_
                  refine lv_if_gt (tgt := 165) hx hb d_MD_face_145 (by decide) (fun c70 => ?_) (fun c70 => ?_)
                  · rw [if_pos c70] at h
                    refine lv_iconst (v := 0) hx hb d_MD_face_165 (by decide) ?_
                    exact W.zret hx hb hr rfl (fun t ht _ => ⟨_, rfl, Option.some.inj h, ht⟩) (fun _ hq => nomatch hq) d_MD_face_166
                  · rw [if_neg c70] at h
                    refine lv_lload hx hb d_MD_face_148 (lv_at hl 1 rfl) ?_
                    refine lv_lload hx hb d_MD_face_150 (lv_at hl 3 rfl) ?_
                    refine W.lcmp hx hb d_MD_face_152 ?_
                    refine lv_if_le (tgt := 161) hx hb d_MD_face_153 (by decide) (fun c71 => ?_) (fun c71 => ?_)
                    · rw [if_pos c71] at h
                      refine lv_iconst (v := 1) hx hb d_MD_face_161 (by decide) ?_
                      refine lv_goto (tgt := 166) hx hb d_MD_face_162 (by decide) ?_
                      exact W.zret hx hb hr rfl (fun t ht _ => ⟨_, rfl, Option.some.inj h, ht⟩) (fun _ hq => nomatch hq) d_MD_face_166
                    · rw [if_neg c71] at h
                      refine lv_iload hx hb d_MD_face_156 (lv_at hl 0 rfl) ?_
                      refine lv_if_eq (tgt := 165) hx hb d_MD_face_158 (by decide) (fun c72 => ?_) (fun c72 => ?_)
                      · rw [if_pos c72] at h
                        refine lv_iconst (v := 0) hx hb d_MD_face_165 (by decide) ?_
                        exact W.zret hx hb hr rfl (fun t ht _ => ⟨_, rfl, Option.some.inj h, ht⟩) (fun _ hq => nomatch hq) d_MD_face_166
                      · rw [if_neg c72] at h
                        refine lv_iconst (v := 1) hx hb d_MD_face_161 (by decide) ?_
                        refine lv_goto (tgt := 166) hx hb d_MD_face_162 (by decide) ?_
                        exact W.zret hx hb hr rfl (fun t ht _ => ⟨_, rfl, Option.some.inj h, ht⟩) (fun _ hq => nomatch hq) d_MD_face_166
                exact k138 x8 x10 x12 s0 0 h _ (lv_sub hl [2, 3, 4, 1] rfl)
              · rw [if_neg c66] at h
                refine lv_iconst (v := 1) hx hb d_MD_face_133 (by decide) ?_
                refine lv_goto (tgt := 138) hx hb d_MD_face_134 (by decide) ?_
                have k138 : ∀ (x8 : Int64) (x10 : Int64) (x12 : Int64) (x14 : Int64) (s0 : Int32) (h : C_MD_face_138 σ x8 x10 x12 x14 s0 = some out) (ls : Array Slot) (hl : lv_has ls 19 [(8, .long x8), (10, .long x10), (12, .long x12), (14, .long x14)]), W p l e (headSpec wl_MD_face ({ frames := 0, cells := 0, slots := 0, locals := 0 } : Room)).room s m (([.long a0, .long a2, .long a4, .long a6] : List Value).toArray) below meth c s.heap [] 0 0 (MQ below (vp_Si (fun r => r = out)) (([.long a0, .long a2, .long a4, .long a6] : List Value).toArray) s 0 0 (fun _ => False)) (F0 m 138 ls [.int s0]) := by
                  intro x8 x10 x12 x14 s0 h ls hl
                  unfold C_MD_face_138 at h
                  refine lv_istore (lv' := [(18, .int s0), (8, .long x8), (10, .long x10), (12, .long x12), (14, .long x14)]) hx hb d_MD_face_138 hl (by decide) rfl (fun ls hl => ?_)
                  refine lv_lload hx hb d_MD_face_140 (lv_at hl 2 rfl) ?_
                  refine lv_lload hx hb d_MD_face_142 (lv_at hl 4 rfl) ?_
                  refine W.lcmp hx hb d_MD_face_144 ?_
                  refine lv_if_gt (tgt := 165) hx hb d_MD_face_145 (by decide) (fun c67 => ?_) (fun c67 => ?_)
                  · rw [if_pos c67] at h
                    refine lv_iconst (v := 0) hx hb d_MD_face_165 (by decide) ?_
                    exact W.zret hx hb hr rfl (fun t ht _ => ⟨_, rfl, Option.some.inj h, ht⟩) (fun _ hq => nomatch hq) d_MD_face_166
                  · rw [if_neg c67] at h
                    refine lv_lload hx hb d_MD_face_148 (lv_at hl 1 rfl) ?_
                    refine lv_lload hx hb d_MD_face_150 (lv_at hl 3 rfl) ?_
                    refine W.lcmp hx hb d_MD_face_152 ?_
                    refine lv_if_le (tgt := 161) hx hb d_MD_face_153 (by decide) (fun c68 => ?_) (fun c68 => ?_)
                    · rw [if_pos c68] at h
                      refine lv_iconst (v := 1) hx hb d_MD_face_161 (by decide) ?_
                      refine lv_goto (tgt := 166) hx hb d_MD_face_162 (by decide) ?_
                      exact W.zret hx hb hr rfl (fun t ht _ => ⟨_, rfl, Option.some.inj h, ht⟩) (fun _ hq => nomatch hq) d_MD_face_166
                    · rw [if_neg c68] at h
                      refine lv_iload hx hb d_MD_face_156 (lv_at hl 0 rfl) ?_
                      refine lv_if_eq (tgt := 165) hx hb d_MD_face_158 (by decide) (fun c69 => ?_) (fun c69 => ?_)
                      · rw [if_pos c69] at h
                        refine lv_iconst (v := 0) hx hb d_MD_face_165 (by decide) ?_
                        exact W.zret hx hb hr rfl (fun t ht _ => ⟨_, rfl, Option.some.inj h, ht⟩) (fun _ hq => nomatch hq) d_MD_face_166
                      · rw [if_neg c69] at h
                        refine lv_iconst (v := 1) hx hb d_MD_face_161 (by decide) ?_
                        refine lv_goto (tgt := 166) hx hb d_MD_face_162 (by decide) ?_
                        exact W.zret hx hb hr rfl (fun t ht _ => ⟨_, rfl, Option.some.inj h, ht⟩) (fun _ hq => nomatch hq) d_MD_face_166
                exact k138 x8 x10 x12 s0 1 h _ (lv_sub hl [2, 3, 4, 1] rfl)
            exact k58 x8 s0 x6 x4 h _ (lv_sub hl [4, 1, 0] rfl)
          · rw [if_neg c56] at h
            refine lv_lload hx hb d_MD_face_51 (lv_at hl 3 rfl) ?_
            refine lv_goto (tgt := 58) hx hb d_MD_face_53 (by decide) ?_
            have k58 : ∀ (x8 : Int64) (x10 : Int64) (x12 : Int64) (s0 : Int64) (h : C_MD_face_58 σ x8 x10 x12 s0 = some out) (ls : Array Slot) (hl : lv_has ls 19 [(8, .long x8), (10, .long x10), (12, .long x12)]), W p l e (headSpec wl_MD_face ({ frames := 0, cells := 0, slots := 0, locals := 0 } : Room)).room s m (([.long a0, .long a2, .long a4, .long a6] : List Value).toArray) below meth c s.heap [] 0 0 (MQ below (vp_Si (fun r => r = out)) (([.long a0, .long a2, .long a4, .long a6] : List Value).toArray) s 0 0 (fun _ => False)) (F0 m 58 ls [.long s0]) := by
              intro x8 x10 x12 s0 h ls hl
              unfold C_MD_face_58 at h
              refine lv_lstore (lv' := [(14, .long s0), (8, .long x8), (10, .long x10), (12, .long x12)]) hx hb d_MD_face_58 hl (by decide) rfl (fun ls hl => ?_)
              refine lv_lload hx hb d_MD_face_60 (lv_at hl 1 rfl) ?_
              refine lv_lload hx hb d_MD_face_62 (lv_at hl 1 rfl) ?_
              refine lv_lmul hx hb d_MD_face_64 ?_
              refine lv_lload hx hb d_MD_face_65 (lv_at hl 2 rfl) ?_
              refine lv_lload hx hb d_MD_face_67 (lv_at hl 2 rfl) ?_
              refine lv_lmul hx hb d_MD_face_69 ?_
              refine lv_lsub hx hb d_MD_face_70 ?_
              obtain ⟨y57, e_y57, h⟩ := lt1_some h
              refine W.eq (g2 := F0 m 71 ls (.long y57 :: [])) (by rw [e_y57]) ?_
              refine lv_lstore (lv' := [(16, .long y57), (14, .long s0), (8, .long x8), (10, .long x10), (12, .long x12)]) hx hb d_MD_face_71 hl (by decide) rfl (fun ls hl => ?_)
              refine lv_lload hx hb d_MD_face_73 (lv_at hl 4 rfl) ?_
              refine lv_lload hx hb d_MD_face_75 (lv_at hl 1 rfl) ?_
              refine lv_ladd hx hb d_MD_face_77 ?_
              refine lv_lload hx hb d_MD_face_78 (lv_at hl 4 rfl) ?_
              refine lv_lload hx hb d_MD_face_80 (lv_at hl 1 rfl) ?_
              refine lv_ladd hx hb d_MD_face_82 ?_
              refine lv_lmul hx hb d_MD_face_83 ?_
              refine lv_lload hx hb d_MD_face_84 (lv_at hl 2 rfl) ?_
              refine lv_lload hx hb d_MD_face_86 (lv_at hl 3 rfl) ?_
              refine lv_lsub hx hb d_MD_face_88 ?_
              refine lv_lmul hx hb d_MD_face_89 ?_
              refine lv_lload hx hb d_MD_face_90 (lv_at hl 2 rfl) ?_
              refine lv_lload hx hb d_MD_face_92 (lv_at hl 3 rfl) ?_
              refine lv_lsub hx hb d_MD_face_94 ?_
              refine lv_lmul hx hb d_MD_face_95 ?_
              refine lv_lload hx hb d_MD_face_96 (lv_at hl 4 rfl) ?_
              refine lv_lload hx hb d_MD_face_98 (lv_at hl 1 rfl) ?_
              refine lv_lsub hx hb d_MD_face_100 ?_
              refine lv_lload hx hb d_MD_face_101 (lv_at hl 4 rfl) ?_
              refine lv_lload hx hb d_MD_face_103 (lv_at hl 1 rfl) ?_
              refine lv_lsub hx hb d_MD_face_105 ?_
              refine lv_lmul hx hb d_MD_face_106 ?_
              refine lv_lload hx hb d_MD_face_107 (lv_at hl 2 rfl) ?_
              refine lv_lload hx hb d_MD_face_109 (lv_at hl 3 rfl) ?_
              refine lv_ladd hx hb d_MD_face_111 ?_
              refine lv_lmul hx hb d_MD_face_112 ?_
              refine lv_lload hx hb d_MD_face_113 (lv_at hl 2 rfl) ?_
              refine lv_lload hx hb d_MD_face_115 (lv_at hl 3 rfl) ?_
              refine lv_ladd hx hb d_MD_face_117 ?_
              refine lv_lmul hx hb d_MD_face_118 ?_
              refine lv_ladd hx hb d_MD_face_119 ?_
              refine lv_ldc2 (v := 2) hx hb hown (hts _ w_835) d_MD_face_120 ?_
              refine lv_lload hx hb d_MD_face_123 (lv_at hl 0 rfl) ?_
              refine lv_lmul hx hb d_MD_face_125 ?_
              refine lv_lload hx hb d_MD_face_126 (lv_at hl 0 rfl) ?_
              refine lv_lmul hx hb d_MD_face_128 ?_
              refine W.lcmp hx hb d_MD_face_129 ?_
              refine lv_if_lt (tgt := 137) hx hb d_MD_face_130 (by decide) (fun c58 => ?_) (fun c58 => ?_)
              · rw [if_pos c58] at h
                refine lv_iconst (v := 0) hx hb d_MD_face_137 (by decide) ?_
                have k138 : ∀ (x8 : Int64) (x10 : Int64) (x12 : Int64) (x14 : Int64) (s0 : Int32) (h : C_MD_face_138 σ x8 x10 x12 x14 s0 = some out) (ls : Array Slot) (hl : lv_has ls 19 [(8, .long x8), (10, .long x10), (12, .long x12), (14, .long x14)]), W p l e (headSpec wl_MD_face ({ frames := 0, cells := 0, slots := 0, locals := 0 } : Room)).room s m (([.long a0, .long a2, .long a4, .long a6] : List Value).toArray) below meth c s.heap [] 0 0 (MQ below (vp_Si (fun r => r = out)) (([.long a0, .long a2, .long a4, .long a6] : List Value).toArray) s 0 0 (fun _ => False)) (F0 m 138 ls [.int s0]) := by
                  intro x8 x10 x12 x14 s0 h ls hl
                  unfold C_MD_face_138 at h
                  refine lv_istore (lv' := [(18, .int s0), (8, .long x8), (10, .long x10), (12, .long x12), (14, .long x14)]) hx hb d_MD_face_138 hl (by decide) rfl (fun ls hl => ?_)
                  refine lv_lload hx hb d_MD_face_140 (lv_at hl 2 rfl) ?_
                  refine lv_lload hx hb d_MD_face_142 (lv_at hl 4 rfl) ?_
                  refine W.lcmp hx hb d_MD_face_144 ?_
                  refine lv_if_gt (tgt := 165) hx hb d_MD_face_145 (by decide) (fun c62 => ?_) (fun c62 => ?_)
                  · rw [if_pos c62] at h
                    refine lv_iconst (v := 0) hx hb d_MD_face_165 (by decide) ?_
                    exact W.zret hx hb hr rfl (fun t ht _ => ⟨_, rfl, Option.some.inj h, ht⟩) (fun _ hq => nomatch hq) d_MD_face_166
                  · rw [if_neg c62] at h
                    refine lv_lload hx hb d_MD_face_148 (lv_at hl 1 rfl) ?_
                    refine lv_lload hx hb d_MD_face_150 (lv_at hl 3 rfl) ?_
                    refine W.lcmp hx hb d_MD_face_152 ?_
                    refine lv_if_le (tgt := 161) hx hb d_MD_face_153 (by decide) (fun c63 => ?_) (fun c63 => ?_)
                    · rw [if_pos c63] at h
                      refine lv_iconst (v := 1) hx hb d_MD_face_161 (by decide) ?_
                      refine lv_goto (tgt := 166) hx hb d_MD_face_162 (by decide) ?_
                      exact W.zret hx hb hr rfl (fun t ht _ => ⟨_, rfl, Option.some.inj h, ht⟩) (fun _ hq => nomatch hq) d_MD_face_166
                    · rw [if_neg c63] at h
                      refine lv_iload hx hb d_MD_face_156 (lv_at hl 0 rfl) ?_
                      refine lv_if_eq (tgt := 165) hx hb d_MD_face_158 (by decide) (fun c64 => ?_) (fun c64 => ?_)
                      · rw [if_pos c64] at h
                        refine lv_iconst (v := 0) hx hb d_MD_face_165 (by decide) ?_
                        exact W.zret hx hb hr rfl (fun t ht _ => ⟨_, rfl, Option.some.inj h, ht⟩) (fun _ hq => nomatch hq) d_MD_face_166
                      · rw [if_neg c64] at h
                        refine lv_iconst (v := 1) hx hb d_MD_face_161 (by decide) ?_
                        refine lv_goto (tgt := 166) hx hb d_MD_face_162 (by decide) ?_
                        exact W.zret hx hb hr rfl (fun t ht _ => ⟨_, rfl, Option.some.inj h, ht⟩) (fun _ hq => nomatch hq) d_MD_face_166
                exact k138 x8 x10 x12 s0 0 h _ (lv_sub hl [2, 3, 4, 1] rfl)
              · rw [if_neg c58] at h
                refine lv_iconst (v := 1) hx hb d_MD_face_133 (by decide) ?_
                refine lv_goto (tgt := 138) hx hb d_MD_face_134 (by decide) ?_
                have k138 : ∀ (x8 : Int64) (x10 : Int64) (x12 : Int64) (x14 : Int64) (s0 : Int32) (h : C_MD_face_138 σ x8 x10 x12 x14 s0 = some out) (ls : Array Slot) (hl : lv_has ls 19 [(8, .long x8), (10, .long x10), (12, .long x12), (14, .long x14)]), W p l e (headSpec wl_MD_face ({ frames := 0, cells := 0, slots := 0, locals := 0 } : Room)).room s m (([.long a0, .long a2, .long a4, .long a6] : List Value).toArray) below meth c s.heap [] 0 0 (MQ below (vp_Si (fun r => r = out)) (([.long a0, .long a2, .long a4, .long a6] : List Value).toArray) s 0 0 (fun _ => False)) (F0 m 138 ls [.int s0]) := by
                  intro x8 x10 x12 x14 s0 h ls hl
                  unfold C_MD_face_138 at h
                  refine lv_istore (lv' := [(18, .int s0), (8, .long x8), (10, .long x10), (12, .long x12), (14, .long x14)]) hx hb d_MD_face_138 hl (by decide) rfl (fun ls hl => ?_)
                  refine lv_lload hx hb d_MD_face_140 (lv_at hl 2 rfl) ?_
                  refine lv_lload hx hb d_MD_face_142 (lv_at hl 4 rfl) ?_
                  refine W.lcmp hx hb d_MD_face_144 ?_
                  refine lv_if_gt (tgt := 165) hx hb d_MD_face_145 (by decide) (fun c59 => ?_) (fun c59 => ?_)
                  · rw [if_pos c59] at h
                    refine lv_iconst (v := 0) hx hb d_MD_face_165 (by decide) ?_
                    exact W.zret hx hb hr rfl (fun t ht _ => ⟨_, rfl, Option.some.inj h, ht⟩) (fun _ hq => nomatch hq) d_MD_face_166
                  · rw [if_neg c59] at h
                    refine lv_lload hx hb d_MD_face_148 (lv_at hl 1 rfl) ?_
                    refine lv_lload hx hb d_MD_face_150 (lv_at hl 3 rfl) ?_
                    refine W.lcmp hx hb d_MD_face_152 ?_
                    refine lv_if_le (tgt := 161) hx hb d_MD_face_153 (by decide) (fun c60 => ?_) (fun c60 => ?_)
                    · rw [if_pos c60] at h
                      refine lv_iconst (v := 1) hx hb d_MD_face_161 (by decide) ?_
                      refine lv_goto (tgt := 166) hx hb d_MD_face_162 (by decide) ?_
                      exact W.zret hx hb hr rfl (fun t ht _ => ⟨_, rfl, Option.some.inj h, ht⟩) (fun _ hq => nomatch hq) d_MD_face_166
                    · rw [if_neg c60] at h
                      refine lv_iload hx hb d_MD_face_156 (lv_at hl 0 rfl) ?_
                      refine lv_if_eq (tgt := 165) hx hb d_MD_face_158 (by decide) (fun c61 => ?_) (fun c61 => ?_)
                      · rw [if_pos c61] at h
                        refine lv_iconst (v := 0) hx hb d_MD_face_165 (by decide) ?_
                        exact W.zret hx hb hr rfl (fun t ht _ => ⟨_, rfl, Option.some.inj h, ht⟩) (fun _ hq => nomatch hq) d_MD_face_166
                      · rw [if_neg c61] at h
                        refine lv_iconst (v := 1) hx hb d_MD_face_161 (by decide) ?_
                        refine lv_goto (tgt := 166) hx hb d_MD_face_162 (by decide) ?_
                        exact W.zret hx hb hr rfl (fun t ht _ => ⟨_, rfl, Option.some.inj h, ht⟩) (fun _ hq => nomatch hq) d_MD_face_166
                exact k138 x8 x10 x12 s0 1 h _ (lv_sub hl [2, 3, 4, 1] rfl)
            exact k58 x8 s0 x6 x6 h _ (lv_sub hl [4, 1, 0] rfl)
        · rw [if_neg c38] at h
          refine lv_lload hx hb d_MD_face_34 (lv_at hl 1 rfl) ?_
          refine lv_goto (tgt := 41) hx hb d_MD_face_36 (by decide) ?_
          refine lv_lstore (lv' := [(12, .long x4), (10, .long s0), (4, .long x4), (6, .long x6), (8, .long x8)]) hx hb d_MD_face_41 hl (by decide) rfl (fun ls hl => ?_)
          refine lv_lload hx hb d_MD_face_43 (lv_at hl 2 rfl) ?_
          refine lv_lload hx hb d_MD_face_45 (lv_at hl 3 rfl) ?_
          refine W.lcmp hx hb d_MD_face_47 ?_
          refine lv_if_le (tgt := 56) hx hb d_MD_face_48 (by decide) (fun c39 => ?_) (fun c39 => ?_)
          · rw [if_pos c39] at h
            refine lv_lload hx hb d_MD_face_56 (lv_at hl 2 rfl) ?_
            have k58 : ∀ (x8 : Int64) (x10 : Int64) (x12 : Int64) (s0 : Int64) (h : C_MD_face_58 σ x8 x10 x12 s0 = some out) (ls : Array Slot) (hl : lv_has ls 19 [(8, .long x8), (10, .long x10), (12, .long x12)]), W p l e (headSpec wl_MD_face ({ frames := 0, cells := 0, slots := 0, locals := 0 } : Room)).room s m (([.long a0, .long a2, .long a4, .long a6] : List Value).toArray) below meth c s.heap [] 0 0 (MQ below (vp_Si (fun r => r = out)) (([.long a0, .long a2, .long a4, .long a6] : List Value).toArray) s 0 0 (fun _ => False)) (F0 m 58 ls [.long s0]) := by
              intro x8 x10 x12 s0 h ls hl
              unfold C_MD_face_58 at h
              refine lv_lstore (lv' := [(14, .long s0), (8, .long x8), (10, .long x10), (12, .long x12)]) hx hb d_MD_face_58 hl (by decide) rfl (fun ls hl => ?_)
              refine lv_lload hx hb d_MD_face_60 (lv_at hl 1 rfl) ?_
              refine lv_lload hx hb d_MD_face_62 (lv_at hl 1 rfl) ?_
              refine lv_lmul hx hb d_MD_face_64 ?_
              refine lv_lload hx hb d_MD_face_65 (lv_at hl 2 rfl) ?_
              refine lv_lload hx hb d_MD_face_67 (lv_at hl 2 rfl) ?_
              refine lv_lmul hx hb d_MD_face_69 ?_
              refine lv_lsub hx hb d_MD_face_70 ?_
              obtain ⟨y48, e_y48, h⟩ := lt1_some h
              refine W.eq (g2 := F0 m 71 ls (.long y48 :: [])) (by rw [e_y48]) ?_
              refine lv_lstore (lv' := [(16, .long y48), (14, .long s0), (8, .long x8), (10, .long x10), (12, .long x12)]) hx hb d_MD_face_71 hl (by decide) rfl (fun ls hl => ?_)
              refine lv_lload hx hb d_MD_face_73 (lv_at hl 4 rfl) ?_
              refine lv_lload hx hb d_MD_face_75 (lv_at hl 1 rfl) ?_
              refine lv_ladd hx hb d_MD_face_77 ?_
              refine lv_lload hx hb d_MD_face_78 (lv_at hl 4 rfl) ?_
              refine lv_lload hx hb d_MD_face_80 (lv_at hl 1 rfl) ?_
              refine lv_ladd hx hb d_MD_face_82 ?_
              refine lv_lmul hx hb d_MD_face_83 ?_
              refine lv_lload hx hb d_MD_face_84 (lv_at hl 2 rfl) ?_
              refine lv_lload hx hb d_MD_face_86 (lv_at hl 3 rfl) ?_
              refine lv_lsub hx hb d_MD_face_88 ?_
              refine lv_lmul hx hb d_MD_face_89 ?_
              refine lv_lload hx hb d_MD_face_90 (lv_at hl 2 rfl) ?_
              refine lv_lload hx hb d_MD_face_92 (lv_at hl 3 rfl) ?_
              refine lv_lsub hx hb d_MD_face_94 ?_
              refine lv_lmul hx hb d_MD_face_95 ?_
              refine lv_lload hx hb d_MD_face_96 (lv_at hl 4 rfl) ?_
              refine lv_lload hx hb d_MD_face_98 (lv_at hl 1 rfl) ?_
              refine lv_lsub hx hb d_MD_face_100 ?_
              refine lv_lload hx hb d_MD_face_101 (lv_at hl 4 rfl) ?_
              refine lv_lload hx hb d_MD_face_103 (lv_at hl 1 rfl) ?_
              refine lv_lsub hx hb d_MD_face_105 ?_
              refine lv_lmul hx hb d_MD_face_106 ?_
              refine lv_lload hx hb d_MD_face_107 (lv_at hl 2 rfl) ?_
              refine lv_lload hx hb d_MD_face_109 (lv_at hl 3 rfl) ?_
              refine lv_ladd hx hb d_MD_face_111 ?_
              refine lv_lmul hx hb d_MD_face_112 ?_
              refine lv_lload hx hb d_MD_face_113 (lv_at hl 2 rfl) ?_
              refine lv_lload hx hb d_MD_face_115 (lv_at hl 3 rfl) ?_
              refine lv_ladd hx hb d_MD_face_117 ?_
              refine lv_lmul hx hb d_MD_face_118 ?_
              refine lv_ladd hx hb d_MD_face_119 ?_
              refine lv_ldc2 (v := 2) hx hb hown (hts _ w_835) d_MD_face_120 ?_
              refine lv_lload hx hb d_MD_face_123 (lv_at hl 0 rfl) ?_
              refine lv_lmul hx hb d_MD_face_125 ?_
              refine lv_lload hx hb d_MD_face_126 (lv_at hl 0 rfl) ?_
              refine lv_lmul hx hb d_MD_face_128 ?_
              refine W.lcmp hx hb d_MD_face_129 ?_
              refine lv_if_lt (tgt := 137) hx hb d_MD_face_130 (by decide) (fun c49 => ?_) (fun c49 => ?_)
              · rw [if_pos c49] at h
                refine lv_iconst (v := 0) hx hb d_MD_face_137 (by decide) ?_
                have k138 : ∀ (x8 : Int64) (x10 : Int64) (x12 : Int64) (x14 : Int64) (s0 : Int32) (h : C_MD_face_138 σ x8 x10 x12 x14 s0 = some out) (ls : Array Slot) (hl : lv_has ls 19 [(8, .long x8), (10, .long x10), (12, .long x12), (14, .long x14)]), W p l e (headSpec wl_MD_face ({ frames := 0, cells := 0, slots := 0, locals := 0 } : Room)).room s m (([.long a0, .long a2, .long a4, .long a6] : List Value).toArray) below meth c s.heap [] 0 0 (MQ below (vp_Si (fun r => r = out)) (([.long a0, .long a2, .long a4, .long a6] : List Value).toArray) s 0 0 (fun _ => False)) (F0 m 138 ls [.int s0]) := by
                  intro x8 x10 x12 x14 s0 h ls hl
                  unfold C_MD_face_138 at h
                  refine lv_istore (lv' := [(18, .int s0), (8, .long x8), (10, .long x10), (12, .long x12), (14, .long x14)]) hx hb d_MD_face_138 hl (by decide) rfl (fun ls hl => ?_)
                  refine lv_lload hx hb d_MD_face_140 (lv_at hl 2 rfl) ?_
                  refine lv_lload hx hb d_MD_face_142 (lv_at hl 4 rfl) ?_
                  refine W.lcmp hx hb d_MD_face_144 ?_
                  refine lv_if_gt (tgt := 165) hx hb d_MD_face_145 (by decide) (fun c53 => ?_) (fun c53 => ?_)
                  · rw [if_pos c53] at h
                    refine lv_iconst (v := 0) hx hb d_MD_face_165 (by decide) ?_
                    exact W.zret hx hb hr rfl (fun t ht _ => ⟨_, rfl, Option.some.inj h, ht⟩) (fun _ hq => nomatch hq) d_MD_face_166
                  · rw [if_neg c53] at h
                    refine lv_lload hx hb d_MD_face_148 (lv_at hl 1 rfl) ?_
                    refine lv_lload hx hb d_MD_face_150 (lv_at hl 3 rfl) ?_
                    refine W.lcmp hx hb d_MD_face_152 ?_
                    refine lv_if_le (tgt := 161) hx hb d_MD_face_153 (by decide) (fun c54 => ?_) (fun c54 => ?_)
                    · rw [if_pos c54] at h
                      refine lv_iconst (v := 1) hx hb d_MD_face_161 (by decide) ?_
                      refine lv_goto (tgt := 166) hx hb d_MD_face_162 (by decide) ?_
                      exact W.zret hx hb hr rfl (fun t ht _ => ⟨_, rfl, Option.some.inj h, ht⟩) (fun _ hq => nomatch hq) d_MD_face_166
                    · rw [if_neg c54] at h
                      refine lv_iload hx hb d_MD_face_156 (lv_at hl 0 rfl) ?_
                      refine lv_if_eq (tgt := 165) hx hb d_MD_face_158 (by decide) (fun c55 => ?_) (fun c55 => ?_)
                      · rw [if_pos c55] at h
                        refine lv_iconst (v := 0) hx hb d_MD_face_165 (by decide) ?_
                        exact W.zret hx hb hr rfl (fun t ht _ => ⟨_, rfl, Option.some.inj h, ht⟩) (fun _ hq => nomatch hq) d_MD_face_166
                      · rw [if_neg c55] at h
                        refine lv_iconst (v := 1) hx hb d_MD_face_161 (by decide) ?_
                        refine lv_goto (tgt := 166) hx hb d_MD_face_162 (by decide) ?_
                        exact W.zret hx hb hr rfl (fun t ht _ => ⟨_, rfl, Option.some.inj h, ht⟩) (fun _ hq => nomatch hq) d_MD_face_166
                exact k138 x8 x10 x12 s0 0 h _ (lv_sub hl [2, 3, 4, 1] rfl)
              · rw [if_neg c49] at h
                refine lv_iconst (v := 1) hx hb d_MD_face_133 (by decide) ?_
                refine lv_goto (tgt := 138) hx hb d_MD_face_134 (by decide) ?_
                have k138 : ∀ (x8 : Int64) (x10 : Int64) (x12 : Int64) (x14 : Int64) (s0 : Int32) (h : C_MD_face_138 σ x8 x10 x12 x14 s0 = some out) (ls : Array Slot) (hl : lv_has ls 19 [(8, .long x8), (10, .long x10), (12, .long x12), (14, .long x14)]), W p l e (headSpec wl_MD_face ({ frames := 0, cells := 0, slots := 0, locals := 0 } : Room)).room s m (([.long a0, .long a2, .long a4, .long a6] : List Value).toArray) below meth c s.heap [] 0 0 (MQ below (vp_Si (fun r => r = out)) (([.long a0, .long a2, .long a4, .long a6] : List Value).toArray) s 0 0 (fun _ => False)) (F0 m 138 ls [.int s0]) := by
                  intro x8 x10 x12 x14 s0 h ls hl
                  unfold C_MD_face_138 at h
                  refine lv_istore (lv' := [(18, .int s0), (8, .long x8), (10, .long x10), (12, .long x12), (14, .long x14)]) hx hb d_MD_face_138 hl (by decide) rfl (fun ls hl => ?_)
                  refine lv_lload hx hb d_MD_face_140 (lv_at hl 2 rfl) ?_
                  refine lv_lload hx hb d_MD_face_142 (lv_at hl 4 rfl) ?_
                  refine W.lcmp hx hb d_MD_face_144 ?_
                  refine lv_if_gt (tgt := 165) hx hb d_MD_face_145 (by decide) (fun c50 => ?_) (fun c50 => ?_)
                  · rw [if_pos c50] at h
                    refine lv_iconst (v := 0) hx hb d_MD_face_165 (by decide) ?_
                    exact W.zret hx hb hr rfl (fun t ht _ => ⟨_, rfl, Option.some.inj h, ht⟩) (fun _ hq => nomatch hq) d_MD_face_166
                  · rw [if_neg c50] at h
                    refine lv_lload hx hb d_MD_face_148 (lv_at hl 1 rfl) ?_
                    refine lv_lload hx hb d_MD_face_150 (lv_at hl 3 rfl) ?_
                    refine W.lcmp hx hb d_MD_face_152 ?_
                    refine lv_if_le (tgt := 161) hx hb d_MD_face_153 (by decide) (fun c51 => ?_) (fun c51 => ?_)
                    · rw [if_pos c51] at h
                      refine lv_iconst (v := 1) hx hb d_MD_face_161 (by decide) ?_
                      refine lv_goto (tgt := 166) hx hb d_MD_face_162 (by decide) ?_
                      exact W.zret hx hb hr rfl (fun t ht _ => ⟨_, rfl, Option.some.inj h, ht⟩) (fun _ hq => nomatch hq) d_MD_face_166
                    · rw [if_neg c51] at h
                      refine lv_iload hx hb d_MD_face_156 (lv_at hl 0 rfl) ?_
                      refine lv_if_eq (tgt := 165) hx hb d_MD_face_158 (by decide) (fun c52 => ?_) (fun c52 => ?_)
                      · rw [if_pos c52] at h
                        refine lv_iconst (v := 0) hx hb d_MD_face_165 (by decide) ?_
                        exact W.zret hx hb hr rfl (fun t ht _ => ⟨_, rfl, Option.some.inj h, ht⟩) (fun _ hq => nomatch hq) d_MD_face_166
                      · rw [if_neg c52] at h
                        refine lv_iconst (v := 1) hx hb d_MD_face_161 (by decide) ?_
                        refine lv_goto (tgt := 166) hx hb d_MD_face_162 (by decide) ?_
                        exact W.zret hx hb hr rfl (fun t ht _ => ⟨_, rfl, Option.some.inj h, ht⟩) (fun _ hq => nomatch hq) d_MD_face_166
                exact k138 x8 x10 x12 s0 1 h _ (lv_sub hl [2, 3, 4, 1] rfl)
            exact k58 x8 s0 x4 x4 h _ (lv_sub hl [4, 1, 0] rfl)
          · rw [if_neg c39] at h
            refine lv_lload hx hb d_MD_face_51 (lv_at hl 3 rfl) ?_
            refine lv_goto (tgt := 58) hx hb d_MD_face_53 (by decide) ?_
            have k58 : ∀ (x8 : Int64) (x10 : Int64) (x12 : Int64) (s0 : Int64) (h : C_MD_face_58 σ x8 x10 x12 s0 = some out) (ls : Array Slot) (hl : lv_has ls 19 [(8, .long x8), (10, .long x10), (12, .long x12)]), W p l e (headSpec wl_MD_face ({ frames := 0, cells := 0, slots := 0, locals := 0 } : Room)).room s m (([.long a0, .long a2, .long a4, .long a6] : List Value).toArray) below meth c s.heap [] 0 0 (MQ below (vp_Si (fun r => r = out)) (([.long a0, .long a2, .long a4, .long a6] : List Value).toArray) s 0 0 (fun _ => False)) (F0 m 58 ls [.long s0]) := by
              intro x8 x10 x12 s0 h ls hl
              unfold C_MD_face_58 at h
              refine lv_lstore (lv' := [(14, .long s0), (8, .long x8), (10, .long x10), (12, .long x12)]) hx hb d_MD_face_58 hl (by decide) rfl (fun ls hl => ?_)
              refine lv_lload hx hb d_MD_face_60 (lv_at hl 1 rfl) ?_
              refine lv_lload hx hb d_MD_face_62 (lv_at hl 1 rfl) ?_
              refine lv_lmul hx hb d_MD_face_64 ?_
              refine lv_lload hx hb d_MD_face_65 (lv_at hl 2 rfl) ?_
              refine lv_lload hx hb d_MD_face_67 (lv_at hl 2 rfl) ?_
              refine lv_lmul hx hb d_MD_face_69 ?_
              refine lv_lsub hx hb d_MD_face_70 ?_
              obtain ⟨y40, e_y40, h⟩ := lt1_some h
              refine W.eq (g2 := F0 m 71 ls (.long y40 :: [])) (by rw [e_y40]) ?_
              refine lv_lstore (lv' := [(16, .long y40), (14, .long s0), (8, .long x8), (10, .long x10), (12, .long x12)]) hx hb d_MD_face_71 hl (by decide) rfl (fun ls hl => ?_)
              refine lv_lload hx hb d_MD_face_73 (lv_at hl 4 rfl) ?_
              refine lv_lload hx hb d_MD_face_75 (lv_at hl 1 rfl) ?_
              refine lv_ladd hx hb d_MD_face_77 ?_
              refine lv_lload hx hb d_MD_face_78 (lv_at hl 4 rfl) ?_
              refine lv_lload hx hb d_MD_face_80 (lv_at hl 1 rfl) ?_
              refine lv_ladd hx hb d_MD_face_82 ?_
              refine lv_lmul hx hb d_MD_face_83 ?_
              refine lv_lload hx hb d_MD_face_84 (lv_at hl 2 rfl) ?_
              refine lv_lload hx hb d_MD_face_86 (lv_at hl 3 rfl) ?_
              refine lv_lsub hx hb d_MD_face_88 ?_
              refine lv_lmul hx hb d_MD_face_89 ?_
              refine lv_lload hx hb d_MD_face_90 (lv_at hl 2 rfl) ?_
              refine lv_lload hx hb d_MD_face_92 (lv_at hl 3 rfl) ?_
              refine lv_lsub hx hb d_MD_face_94 ?_
              refine lv_lmul hx hb d_MD_face_95 ?_
              refine lv_lload hx hb d_MD_face_96 (lv_at hl 4 rfl) ?_
              refine lv_lload hx hb d_MD_face_98 (lv_at hl 1 rfl) ?_
              refine lv_lsub hx hb d_MD_face_100 ?_
              refine lv_lload hx hb d_MD_face_101 (lv_at hl 4 rfl) ?_
              refine lv_lload hx hb d_MD_face_103 (lv_at hl 1 rfl) ?_
              refine lv_lsub hx hb d_MD_face_105 ?_
              refine lv_lmul hx hb d_MD_face_106 ?_
              refine lv_lload hx hb d_MD_face_107 (lv_at hl 2 rfl) ?_
              refine lv_lload hx hb d_MD_face_109 (lv_at hl 3 rfl) ?_
              refine lv_ladd hx hb d_MD_face_111 ?_
              refine lv_lmul hx hb d_MD_face_112 ?_
              refine lv_lload hx hb d_MD_face_113 (lv_at hl 2 rfl) ?_
              refine lv_lload hx hb d_MD_face_115 (lv_at hl 3 rfl) ?_
              refine lv_ladd hx hb d_MD_face_117 ?_
              refine lv_lmul hx hb d_MD_face_118 ?_
              refine lv_ladd hx hb d_MD_face_119 ?_
              refine lv_ldc2 (v := 2) hx hb hown (hts _ w_835) d_MD_face_120 ?_
              refine lv_lload hx hb d_MD_face_123 (lv_at hl 0 rfl) ?_
              refine lv_lmul hx hb d_MD_face_125 ?_
              refine lv_lload hx hb d_MD_face_126 (lv_at hl 0 rfl) ?_
              refine lv_lmul hx hb d_MD_face_128 ?_
              refine W.lcmp hx hb d_MD_face_129 ?_
              refine lv_if_lt (tgt := 137) hx hb d_MD_face_130 (by decide) (fun c41 => ?_) (fun c41 => ?_)
              · rw [if_pos c41] at h
                refine lv_iconst (v := 0) hx hb d_MD_face_137 (by decide) ?_
                have k138 : ∀ (x8 : Int64) (x10 : Int64) (x12 : Int64) (x14 : Int64) (s0 : Int32) (h : C_MD_face_138 σ x8 x10 x12 x14 s0 = some out) (ls : Array Slot) (hl : lv_has ls 19 [(8, .long x8), (10, .long x10), (12, .long x12), (14, .long x14)]), W p l e (headSpec wl_MD_face ({ frames := 0, cells := 0, slots := 0, locals := 0 } : Room)).room s m (([.long a0, .long a2, .long a4, .long a6] : List Value).toArray) below meth c s.heap [] 0 0 (MQ below (vp_Si (fun r => r = out)) (([.long a0, .long a2, .long a4, .long a6] : List Value).toArray) s 0 0 (fun _ => False)) (F0 m 138 ls [.int s0]) := by
                  intro x8 x10 x12 x14 s0 h ls hl
                  unfold C_MD_face_138 at h
                  refine lv_istore (lv' := [(18, .int s0), (8, .long x8), (10, .long x10), (12, .long x12), (14, .long x14)]) hx hb d_MD_face_138 hl (by decide) rfl (fun ls hl => ?_)
                  refine lv_lload hx hb d_MD_face_140 (lv_at hl 2 rfl) ?_
                  refine lv_lload hx hb d_MD_face_142 (lv_at hl 4 rfl) ?_
                  refine W.lcmp hx hb d_MD_face_144 ?_
                  refine lv_if_gt (tgt := 165) hx hb d_MD_face_145 (by decide) (fun c45 => ?_) (fun c45 => ?_)
                  · rw [if_pos c45] at h
                    refine lv_iconst (v := 0) hx hb d_MD_face_165 (by decide) ?_
                    exact W.zret hx hb hr rfl (fun t ht _ => ⟨_, rfl, Option.some.inj h, ht⟩) (fun _ hq => nomatch hq) d_MD_face_166
                  · rw [if_neg c45] at h
                    refine lv_lload hx hb d_MD_face_148 (lv_at hl 1 rfl) ?_
                    refine lv_lload hx hb d_MD_face_150 (lv_at hl 3 rfl) ?_
                    refine W.lcmp hx hb d_MD_face_152 ?_
                    refine lv_if_le (tgt := 161) hx hb d_MD_face_153 (by decide) (fun c46 => ?_) (fun c46 => ?_)
                    · rw [if_pos c46] at h
                      refine lv_iconst (v := 1) hx hb d_MD_face_161 (by decide) ?_
                      refine lv_goto (tgt := 166) hx hb d_MD_face_162 (by decide) ?_
                      exact W.zret hx hb hr rfl (fun t ht _ => ⟨_, rfl, Option.some.inj h, ht⟩) (fun _ hq => nomatch hq) d_MD_face_166
                    · rw [if_neg c46] at h
                      refine lv_iload hx hb d_MD_face_156 (lv_at hl 0 rfl) ?_
                      refine lv_if_eq (tgt := 165) hx hb d_MD_face_158 (by decide) (fun c47 => ?_) (fun c47 => ?_)
                      · rw [if_pos c47] at h
                        refine lv_iconst (v := 0) hx hb d_MD_face_165 (by decide) ?_
                        exact W.zret hx hb hr rfl (fun t ht _ => ⟨_, rfl, Option.some.inj h, ht⟩) (fun _ hq => nomatch hq) d_MD_face_166
                      · rw [if_neg c47] at h
                        refine lv_iconst (v := 1) hx hb d_MD_face_161 (by decide) ?_
                        refine lv_goto (tgt := 166) hx hb d_MD_face_162 (by decide) ?_
                        exact W.zret hx hb hr rfl (fun t ht _ => ⟨_, rfl, Option.some.inj h, ht⟩) (fun _ hq => nomatch hq) d_MD_face_166
                exact k138 x8 x10 x12 s0 0 h _ (lv_sub hl [2, 3, 4, 1] rfl)
              · rw [if_neg c41] at h
                refine lv_iconst (v := 1) hx hb d_MD_face_133 (by decide) ?_
                refine lv_goto (tgt := 138) hx hb d_MD_face_134 (by decide) ?_
                have k138 : ∀ (x8 : Int64) (x10 : Int64) (x12 : Int64) (x14 : Int64) (s0 : Int32) (h : C_MD_face_138 σ x8 x10 x12 x14 s0 = some out) (ls : Array Slot) (hl : lv_has ls 19 [(8, .long x8), (10, .long x10), (12, .long x12), (14, .long x14)]), W p l e (headSpec wl_MD_face ({ frames := 0, cells := 0, slots := 0, locals := 0 } : Room)).room s m (([.long a0, .long a2, .long a4, .long a6] : List Value).toArray) below meth c s.heap [] 0 0 (MQ below (vp_Si (fun r => r = out)) (([.long a0, .long a2, .long a4, .long a6] : List Value).toArray) s 0 0 (fun _ => False)) (F0 m 138 ls [.int s0]) := by
                  intro x8 x10 x12 x14 s0 h ls hl
                  unfold C_MD_face_138 at h
                  refine lv_istore (lv' := [(18, .int s0), (8, .long x8), (10, .long x10), (12, .long x12), (14, .long x14)]) hx hb d_MD_face_138 hl (by decide) rfl (fun ls hl => ?_)
                  refine lv_lload hx hb d_MD_face_140 (lv_at hl 2 rfl) ?_
                  refine lv_lload hx hb d_MD_face_142 (lv_at hl 4 rfl) ?_
                  refine W.lcmp hx hb d_MD_face_144 ?_
                  refine lv_if_gt (tgt := 165) hx hb d_MD_face_145 (by decide) (fun c42 => ?_) (fun c42 => ?_)
                  · rw [if_pos c42] at h
                    refine lv_iconst (v := 0) hx hb d_MD_face_165 (by decide) ?_
                    exact W.zret hx hb hr rfl (fun t ht _ => ⟨_, rfl, Option.some.inj h, ht⟩) (fun _ hq => nomatch hq) d_MD_face_166
                  · rw [if_neg c42] at h
                    refine lv_lload hx hb d_MD_face_148 (lv_at hl 1 rfl) ?_
                    refine lv_lload hx hb d_MD_face_150 (lv_at hl 3 rfl) ?_
                    refine W.lcmp hx hb d_MD_face_152 ?_
                    refine lv_if_le (tgt := 161) hx hb d_MD_face_153 (by decide) (fun c43 => ?_) (fun c43 => ?_)
                    · rw [if_pos c43] at h
                      refine lv_iconst (v := 1) hx hb d_MD_face_161 (by decide) ?_
                      refine lv_goto (tgt := 166) hx hb d_MD_face_162 (by decide) ?_
                      exact W.zret hx hb hr rfl (fun t ht _ => ⟨_, rfl, Option.some.inj h, ht⟩) (fun _ hq => nomatch hq) d_MD_face_166
                    · rw [if_neg c43] at h
                      refine lv_iload hx hb d_MD_face_156 (lv_at hl 0 rfl) ?_
                      refine lv_if_eq (tgt := 165) hx hb d_MD_face_158 (by decide) (fun c44 => ?_) (fun c44 => ?_)
                      · rw [if_pos c44] at h
                        refine lv_iconst (v := 0) hx hb d_MD_face_165 (by decide) ?_
                        exact W.zret hx hb hr rfl (fun t ht _ => ⟨_, rfl, Option.some.inj h, ht⟩) (fun _ hq => nomatch hq) d_MD_face_166
                      · rw [if_neg c44] at h
                        refine lv_iconst (v := 1) hx hb d_MD_face_161 (by decide) ?_
                        refine lv_goto (tgt := 166) hx hb d_MD_face_162 (by decide) ?_
                        exact W.zret hx hb hr rfl (fun t ht _ => ⟨_, rfl, Option.some.inj h, ht⟩) (fun _ hq => nomatch hq) d_MD_face_166
                exact k138 x8 x10 x12 s0 1 h _ (lv_sub hl [2, 3, 4, 1] rfl)
            exact k58 x8 s0 x4 x6 h _ (lv_sub hl [4, 1, 0] rfl)
      exact k24 a4 a6 a0 a0 h _ (lv_sub hl [3, 4, 0] rfl)
    · rw [if_neg c2] at h
      refine lv_lload_n hx hb d_MD_face_19 rfl (lv_at hl 2 rfl) ?_
      refine lv_goto (tgt := 24) hx hb d_MD_face_20 (by decide) ?_
      have k24 : ∀ (x4 : Int64) (x6 : Int64) (x8 : Int64) (s0 : Int64) (h : C_MD_face_24 σ x4 x6 x8 s0 = some out) (ls : Array Slot) (hl : lv_has ls 19 [(4, .long x4), (6, .long x6), (8, .long x8)]), W p l e (headSpec wl_MD_face ({ frames := 0, cells := 0, slots := 0, locals := 0 } : Room)).room s m (([.long a0, .long a2, .long a4, .long a6] : List Value).toArray) below meth c s.heap [] 0 0 (MQ below (vp_Si (fun r => r = out)) (([.long a0, .long a2, .long a4, .long a6] : List Value).toArray) s 0 0 (fun _ => False)) (F0 m 24 ls [.long s0]) := by
        intro x4 x6 x8 s0 h ls hl
        unfold C_MD_face_24 at h
        refine lv_lstore (lv' := [(10, .long s0), (4, .long x4), (6, .long x6), (8, .long x8)]) hx hb d_MD_face_24 hl (by decide) rfl (fun ls hl => ?_)
        refine lv_lload hx hb d_MD_face_26 (lv_at hl 1 rfl) ?_
        refine lv_lload hx hb d_MD_face_28 (lv_at hl 2 rfl) ?_
        refine W.lcmp hx hb d_MD_face_30 ?_
        refine lv_if_le (tgt := 39) hx hb d_MD_face_31 (by decide) (fun c3 => ?_) (fun c3 => ?_)
        · rw [if_pos c3] at h
          refine lv_lload hx hb d_MD_face_39 (lv_at hl 2 rfl) ?_
          refine lv_lstore (lv' := [(12, .long x6), (10, .long s0), (4, .long x4), (6, .long x6), (8, .long x8)]) hx hb d_MD_face_41 hl (by decide) rfl (fun ls hl => ?_)
          refine lv_lload hx hb d_MD_face_43 (lv_at hl 2 rfl) ?_
          refine lv_lload hx hb d_MD_face_45 (lv_at hl 3 rfl) ?_
          refine W.lcmp hx hb d_MD_face_47 ?_
          refine lv_if_le (tgt := 56) hx hb d_MD_face_48 (by decide) (fun c21 => ?_) (fun c21 => ?_)
          · rw [if_pos c21] at h
            refine lv_lload hx hb d_MD_face_56 (lv_at hl 2 rfl) ?_
            have k58 : ∀ (x8 : Int64) (x10 : Int64) (x12 : Int64) (s0 : Int64) (h : C_MD_face_58 σ x8 x10 x12 s0 = some out) (ls : Array Slot) (hl : lv_has ls 19 [(8, .long x8), (10, .long x10), (12, .long x12)]), W p l e (headSpec wl_MD_face ({ frames := 0, cells := 0, slots := 0, locals := 0 } : Room)).room s m (([.long a0, .long a2, .long a4, .long a6] : List Value).toArray) below meth c s.heap [] 0 0 (MQ below (vp_Si (fun r => r = out)) (([.long a0, .long a2, .long a4, .long a6] : List Value).toArray) s 0 0 (fun _ => False)) (F0 m 58 ls [.long s0]) := by
              intro x8 x10 x12 s0 h ls hl
              unfold C_MD_face_58 at h
              refine lv_lstore (lv' := [(14, .long s0), (8, .long x8), (10, .long x10), (12, .long x12)]) hx hb d_MD_face_58 hl (by decide) rfl (fun ls hl => ?_)
              refine lv_lload hx hb d_MD_face_60 (lv_at hl 1 rfl) ?_
              refine lv_lload hx hb d_MD_face_62 (lv_at hl 1 rfl) ?_
              refine lv_lmul hx hb d_MD_face_64 ?_
              refine lv_lload hx hb d_MD_face_65 (lv_at hl 2 rfl) ?_
              refine lv_lload hx hb d_MD_face_67 (lv_at hl 2 rfl) ?_
              refine lv_lmul hx hb d_MD_face_69 ?_
              refine lv_lsub hx hb d_MD_face_70 ?_
              obtain ⟨y30, e_y30, h⟩ := lt1_some h
              refine W.eq (g2 := F0 m 71 ls (.long y30 :: [])) (by rw [e_y30]) ?_
              refine lv_lstore (lv' := [(16, .long y30), (14, .long s0), (8, .long x8), (10, .long x10), (12, .long x12)]) hx hb d_MD_face_71 hl (by decide) rfl (fun ls hl => ?_)
              refine lv_lload hx hb d_MD_face_73 (lv_at hl 4 rfl) ?_
              refine lv_lload hx hb d_MD_face_75 (lv_at hl 1 rfl) ?_
              refine lv_ladd hx hb d_MD_face_77 ?_
              refine lv_lload hx hb d_MD_face_78 (lv_at hl 4 rfl) ?_
              refine lv_lload hx hb d_MD_face_80 (lv_at hl 1 rfl) ?_
              refine lv_ladd hx hb d_MD_face_82 ?_
              refine lv_lmul hx hb d_MD_face_83 ?_
              refine lv_lload hx hb d_MD_face_84 (lv_at hl 2 rfl) ?_
              refine lv_lload hx hb d_MD_face_86 (lv_at hl 3 rfl) ?_
              refine lv_lsub hx hb d_MD_face_88 ?_
              refine lv_lmul hx hb d_MD_face_89 ?_
              refine lv_lload hx hb d_MD_face_90 (lv_at hl 2 rfl) ?_
              refine lv_lload hx hb d_MD_face_92 (lv_at hl 3 rfl) ?_
              refine lv_lsub hx hb d_MD_face_94 ?_
              refine lv_lmul hx hb d_MD_face_95 ?_
              refine lv_lload hx hb d_MD_face_96 (lv_at hl 4 rfl) ?_
              refine lv_lload hx hb d_MD_face_98 (lv_at hl 1 rfl) ?_
              refine lv_lsub hx hb d_MD_face_100 ?_
              refine lv_lload hx hb d_MD_face_101 (lv_at hl 4 rfl) ?_
              refine lv_lload hx hb d_MD_face_103 (lv_at hl 1 rfl) ?_
              refine lv_lsub hx hb d_MD_face_105 ?_
              refine lv_lmul hx hb d_MD_face_106 ?_
              refine lv_lload hx hb d_MD_face_107 (lv_at hl 2 rfl) ?_
              refine lv_lload hx hb d_MD_face_109 (lv_at hl 3 rfl) ?_
              refine lv_ladd hx hb d_MD_face_111 ?_
              refine lv_lmul hx hb d_MD_face_112 ?_
              refine lv_lload hx hb d_MD_face_113 (lv_at hl 2 rfl) ?_
              refine lv_lload hx hb d_MD_face_115 (lv_at hl 3 rfl) ?_
              refine lv_ladd hx hb d_MD_face_117 ?_
              refine lv_lmul hx hb d_MD_face_118 ?_
              refine lv_ladd hx hb d_MD_face_119 ?_
              refine lv_ldc2 (v := 2) hx hb hown (hts _ w_835) d_MD_face_120 ?_
              refine lv_lload hx hb d_MD_face_123 (lv_at hl 0 rfl) ?_
              refine lv_lmul hx hb d_MD_face_125 ?_
              refine lv_lload hx hb d_MD_face_126 (lv_at hl 0 rfl) ?_
              refine lv_lmul hx hb d_MD_face_128 ?_
              refine W.lcmp hx hb d_MD_face_129 ?_
              refine lv_if_lt (tgt := 137) hx hb d_MD_face_130 (by decide) (fun c31 => ?_) (fun c31 => ?_)
              · rw [if_pos c31] at h
                refine lv_iconst (v := 0) hx hb d_MD_face_137 (by decide) ?_
                have k138 : ∀ (x8 : Int64) (x10 : Int64) (x12 : Int64) (x14 : Int64) (s0 : Int32) (h : C_MD_face_138 σ x8 x10 x12 x14 s0 = some out) (ls : Array Slot) (hl : lv_has ls 19 [(8, .long x8), (10, .long x10), (12, .long x12), (14, .long x14)]), W p l e (headSpec wl_MD_face ({ frames := 0, cells := 0, slots := 0, locals := 0 } : Room)).room s m (([.long a0, .long a2, .long a4, .long a6] : List Value).toArray) below meth c s.heap [] 0 0 (MQ below (vp_Si (fun r => r = out)) (([.long a0, .long a2, .long a4, .long a6] : List Value).toArray) s 0 0 (fun _ => False)) (F0 m 138 ls [.int s0]) := by
                  intro x8 x10 x12 x14 s0 h ls hl
                  unfold C_MD_face_138 at h
                  refine lv_istore (lv' := [(18, .int s0), (8, .long x8), (10, .long x10), (12, .long x12), (14, .long x14)]) hx hb d_MD_face_138 hl (by decide) rfl (fun ls hl => ?_)
                  refine lv_lload hx hb d_MD_face_140 (lv_at hl 2 rfl) ?_
                  refine lv_lload hx hb d_MD_face_142 (lv_at hl 4 rfl) ?_
                  refine W.lcmp hx hb d_MD_face_144 ?_
                  refine lv_if_gt (tgt := 165) hx hb d_MD_face_145 (by decide) (fun c35 => ?_) (fun c35 => ?_)
                  · rw [if_pos c35] at h
                    refine lv_iconst (v := 0) hx hb d_MD_face_165 (by decide) ?_
                    exact W.zret hx hb hr rfl (fun t ht _ => ⟨_, rfl, Option.some.inj h, ht⟩) (fun _ hq => nomatch hq) d_MD_face_166
                  · rw [if_neg c35] at h
                    refine lv_lload hx hb d_MD_face_148 (lv_at hl 1 rfl) ?_
                    refine lv_lload hx hb d_MD_face_150 (lv_at hl 3 rfl) ?_
                    refine W.lcmp hx hb d_MD_face_152 ?_
                    refine lv_if_le (tgt := 161) hx hb d_MD_face_153 (by decide) (fun c36 => ?_) (fun c36 => ?_)
                    · rw [if_pos c36] at h
                      refine lv_iconst (v := 1) hx hb d_MD_face_161 (by decide) ?_
                      refine lv_goto (tgt := 166) hx hb d_MD_face_162 (by decide) ?_
                      exact W.zret hx hb hr rfl (fun t ht _ => ⟨_, rfl, Option.some.inj h, ht⟩) (fun _ hq => nomatch hq) d_MD_face_166
                    · rw [if_neg c36] at h
                      refine lv_iload hx hb d_MD_face_156 (lv_at hl 0 rfl) ?_
                      refine lv_if_eq (tgt := 165) hx hb d_MD_face_158 (by decide) (fun c37 => ?_) (fun c37 => ?_)
                      · rw [if_pos c37] at h
                        refine lv_iconst (v := 0) hx hb d_MD_face_165 (by decide) ?_
                        exact W.zret hx hb hr rfl (fun t ht _ => ⟨_, rfl, Option.some.inj h, ht⟩) (fun _ hq => nomatch hq) d_MD_face_166
                      · rw [if_neg c37] at h
                        refine lv_iconst (v := 1) hx hb d_MD_face_161 (by decide) ?_
                        refine lv_goto (tgt := 166) hx hb d_MD_face_162 (by decide) ?_
                        exact W.zret hx hb hr rfl (fun t ht _ => ⟨_, rfl, Option.some.inj h, ht⟩) (fun _ hq => nomatch hq) d_MD_face_166
                exact k138 x8 x10 x12 s0 0 h _ (lv_sub hl [2, 3, 4, 1] rfl)
              · rw [if_neg c31] at h
                refine lv_iconst (v := 1) hx hb d_MD_face_133 (by decide) ?_
                refine lv_goto (tgt := 138) hx hb d_MD_face_134 (by decide) ?_
                have k138 : ∀ (x8 : Int64) (x10 : Int64) (x12 : Int64) (x14 : Int64) (s0 : Int32) (h : C_MD_face_138 σ x8 x10 x12 x14 s0 = some out) (ls : Array Slot) (hl : lv_has ls 19 [(8, .long x8), (10, .long x10), (12, .long x12), (14, .long x14)]), W p l e (headSpec wl_MD_face ({ frames := 0, cells := 0, slots := 0, locals := 0 } : Room)).room s m (([.long a0, .long a2, .long a4, .long a6] : List Value).toArray) below meth c s.heap [] 0 0 (MQ below (vp_Si (fun r => r = out)) (([.long a0, .long a2, .long a4, .long a6] : List Value).toArray) s 0 0 (fun _ => False)) (F0 m 138 ls [.int s0]) := by
                  intro x8 x10 x12 x14 s0 h ls hl
                  unfold C_MD_face_138 at h
                  refine lv_istore (lv' := [(18, .int s0), (8, .long x8), (10, .long x10), (12, .long x12), (14, .long x14)]) hx hb d_MD_face_138 hl (by decide) rfl (fun ls hl => ?_)
                  refine lv_lload hx hb d_MD_face_140 (lv_at hl 2 rfl) ?_
                  refine lv_lload hx hb d_MD_face_142 (lv_at hl 4 rfl) ?_
                  refine W.lcmp hx hb d_MD_face_144 ?_
                  refine lv_if_gt (tgt := 165) hx hb d_MD_face_145 (by decide) (fun c32 => ?_) (fun c32 => ?_)
                  · rw [if_pos c32] at h
                    refine lv_iconst (v := 0) hx hb d_MD_face_165 (by decide) ?_
                    exact W.zret hx hb hr rfl (fun t ht _ => ⟨_, rfl, Option.some.inj h, ht⟩) (fun _ hq => nomatch hq) d_MD_face_166
                  · rw [if_neg c32] at h
                    refine lv_lload hx hb d_MD_face_148 (lv_at hl 1 rfl) ?_
                    refine lv_lload hx hb d_MD_face_150 (lv_at hl 3 rfl) ?_
                    refine W.lcmp hx hb d_MD_face_152 ?_
                    refine lv_if_le (tgt := 161) hx hb d_MD_face_153 (by decide) (fun c33 => ?_) (fun c33 => ?_)
                    · rw [if_pos c33] at h
                      refine lv_iconst (v := 1) hx hb d_MD_face_161 (by decide) ?_
                      refine lv_goto (tgt := 166) hx hb d_MD_face_162 (by decide) ?_
                      exact W.zret hx hb hr rfl (fun t ht _ => ⟨_, rfl, Option.some.inj h, ht⟩) (fun _ hq => nomatch hq) d_MD_face_166
                    · rw [if_neg c33] at h
                      refine lv_iload hx hb d_MD_face_156 (lv_at hl 0 rfl) ?_
                      refine lv_if_eq (tgt := 165) hx hb d_MD_face_158 (by decide) (fun c34 => ?_) (fun c34 => ?_)
                      · rw [if_pos c34] at h
                        refine lv_iconst (v := 0) hx hb d_MD_face_165 (by decide) ?_
                        exact W.zret hx hb hr rfl (fun t ht _ => ⟨_, rfl, Option.some.inj h, ht⟩) (fun _ hq => nomatch hq) d_MD_face_166
                      · rw [if_neg c34] at h
                        refine lv_iconst (v := 1) hx hb d_MD_face_161 (by decide) ?_
                        refine lv_goto (tgt := 166) hx hb d_MD_face_162 (by decide) ?_
                        exact W.zret hx hb hr rfl (fun t ht _ => ⟨_, rfl, Option.some.inj h, ht⟩) (fun _ hq => nomatch hq) d_MD_face_166
                exact k138 x8 x10 x12 s0 1 h _ (lv_sub hl [2, 3, 4, 1] rfl)
            exact k58 x8 s0 x6 x4 h _ (lv_sub hl [4, 1, 0] rfl)
          · rw [if_neg c21] at h
            refine lv_lload hx hb d_MD_face_51 (lv_at hl 3 rfl) ?_
            refine lv_goto (tgt := 58) hx hb d_MD_face_53 (by decide) ?_
            have k58 : ∀ (x8 : Int64) (x10 : Int64) (x12 : Int64) (s0 : Int64) (h : C_MD_face_58 σ x8 x10 x12 s0 = some out) (ls : Array Slot) (hl : lv_has ls 19 [(8, .long x8), (10, .long x10), (12, .long x12)]), W p l e (headSpec wl_MD_face ({ frames := 0, cells := 0, slots := 0, locals := 0 } : Room)).room s m (([.long a0, .long a2, .long a4, .long a6] : List Value).toArray) below meth c s.heap [] 0 0 (MQ below (vp_Si (fun r => r = out)) (([.long a0, .long a2, .long a4, .long a6] : List Value).toArray) s 0 0 (fun _ => False)) (F0 m 58 ls [.long s0]) := by
              intro x8 x10 x12 s0 h ls hl
              unfold C_MD_face_58 at h
              refine lv_lstore (lv' := [(14, .long s0), (8, .long x8), (10, .long x10), (12, .long x12)]) hx hb d_MD_face_58 hl (by decide) rfl (fun ls hl => ?_)
              refine lv_lload hx hb d_MD_face_60 (lv_at hl 1 rfl) ?_
              refine lv_lload hx hb d_MD_face_62 (lv_at hl 1 rfl) ?_
              refine lv_lmul hx hb d_MD_face_64 ?_
              refine lv_lload hx hb d_MD_face_65 (lv_at hl 2 rfl) ?_
              refine lv_lload hx hb d_MD_face_67 (lv_at hl 2 rfl) ?_
              refine lv_lmul hx hb d_MD_face_69 ?_
              refine lv_lsub hx hb d_MD_face_70 ?_
              obtain ⟨y22, e_y22, h⟩ := lt1_some h
              refine W.eq (g2 := F0 m 71 ls (.long y22 :: [])) (by rw [e_y22]) ?_
              refine lv_lstore (lv' := [(16, .long y22), (14, .long s0), (8, .long x8), (10, .long x10), (12, .long x12)]) hx hb d_MD_face_71 hl (by decide) rfl (fun ls hl => ?_)
              refine lv_lload hx hb d_MD_face_73 (lv_at hl 4 rfl) ?_
              refine lv_lload hx hb d_MD_face_75 (lv_at hl 1 rfl) ?_
              refine lv_ladd hx hb d_MD_face_77 ?_
              refine lv_lload hx hb d_MD_face_78 (lv_at hl 4 rfl) ?_
              refine lv_lload hx hb d_MD_face_80 (lv_at hl 1 rfl) ?_
              refine lv_ladd hx hb d_MD_face_82 ?_
              refine lv_lmul hx hb d_MD_face_83 ?_
              refine lv_lload hx hb d_MD_face_84 (lv_at hl 2 rfl) ?_
              refine lv_lload hx hb d_MD_face_86 (lv_at hl 3 rfl) ?_
              refine lv_lsub hx hb d_MD_face_88 ?_
              refine lv_lmul hx hb d_MD_face_89 ?_
              refine lv_lload hx hb d_MD_face_90 (lv_at hl 2 rfl) ?_
              refine lv_lload hx hb d_MD_face_92 (lv_at hl 3 rfl) ?_
              refine lv_lsub hx hb d_MD_face_94 ?_
              refine lv_lmul hx hb d_MD_face_95 ?_
              refine lv_lload hx hb d_MD_face_96 (lv_at hl 4 rfl) ?_
              refine lv_lload hx hb d_MD_face_98 (lv_at hl 1 rfl) ?_
              refine lv_lsub hx hb d_MD_face_100 ?_
              refine lv_lload hx hb d_MD_face_101 (lv_at hl 4 rfl) ?_
              refine lv_lload hx hb d_MD_face_103 (lv_at hl 1 rfl) ?_
              refine lv_lsub hx hb d_MD_face_105 ?_
              refine lv_lmul hx hb d_MD_face_106 ?_
              refine lv_lload hx hb d_MD_face_107 (lv_at hl 2 rfl) ?_
              refine lv_lload hx hb d_MD_face_109 (lv_at hl 3 rfl) ?_
              refine lv_ladd hx hb d_MD_face_111 ?_
              refine lv_lmul hx hb d_MD_face_112 ?_
              refine lv_lload hx hb d_MD_face_113 (lv_at hl 2 rfl) ?_
              refine lv_lload hx hb d_MD_face_115 (lv_at hl 3 rfl) ?_
              refine lv_ladd hx hb d_MD_face_117 ?_
              refine lv_lmul hx hb d_MD_face_118 ?_
              refine lv_ladd hx hb d_MD_face_119 ?_
              refine lv_ldc2 (v := 2) hx hb hown (hts _ w_835) d_MD_face_120 ?_
              refine lv_lload hx hb d_MD_face_123 (lv_at hl 0 rfl) ?_
              refine lv_lmul hx hb d_MD_face_125 ?_
              refine lv_lload hx hb d_MD_face_126 (lv_at hl 0 rfl) ?_
              refine lv_lmul hx hb d_MD_face_128 ?_
              refine W.lcmp hx hb d_MD_face_129 ?_
              refine lv_if_lt (tgt := 137) hx hb d_MD_face_130 (by decide) (fun c23 => ?_) (fun c23 => ?_)
              · rw [if_pos c23] at h
                refine lv_iconst (v := 0) hx hb d_MD_face_137 (by decide) ?_
                have k138 : ∀ (x8 : Int64) (x10 : Int64) (x12 : Int64) (x14 : Int64) (s0 : Int32) (h : C_MD_face_138 σ x8 x10 x12 x14 s0 = some out) (ls : Array Slot) (hl : lv_has ls 19 [(8, .long x8), (10, .long x10), (12, .long x12), (14, .long x14)]), W p l e (headSpec wl_MD_face ({ frames := 0, cells := 0, slots := 0, locals := 0 } : Room)).room s m (([.long a0, .long a2, .long a4, .long a6] : List Value).toArray) below meth c s.heap [] 0 0 (MQ below (vp_Si (fun r => r = out)) (([.long a0, .long a2, .long a4, .long a6] : List Value).toArray) s 0 0 (fun _ => False)) (F0 m 138 ls [.int s0]) := by
                  intro x8 x10 x12 x14 s0 h ls hl
                  unfold C_MD_face_138 at h
                  refine lv_istore (lv' := [(18, .int s0), (8, .long x8), (10, .long x10), (12, .long x12), (14, .long x14)]) hx hb d_MD_face_138 hl (by decide) rfl (fun ls hl => ?_)
                  refine lv_lload hx hb d_MD_face_140 (lv_at hl 2 rfl) ?_
                  refine lv_lload hx hb d_MD_face_142 (lv_at hl 4 rfl) ?_
                  refine W.lcmp hx hb d_MD_face_144 ?_
                  refine lv_if_gt (tgt := 165) hx hb d_MD_face_145 (by decide) (fun c27 => ?_) (fun c27 => ?_)
                  · rw [if_pos c27] at h
                    refine lv_iconst (v := 0) hx hb d_MD_face_165 (by decide) ?_
                    exact W.zret hx hb hr rfl (fun t ht _ => ⟨_, rfl, Option.some.inj h, ht⟩) (fun _ hq => nomatch hq) d_MD_face_166
                  · rw [if_neg c27] at h
                    refine lv_lload hx hb d_MD_face_148 (lv_at hl 1 rfl) ?_
                    refine lv_lload hx hb d_MD_face_150 (lv_at hl 3 rfl) ?_
                    refine W.lcmp hx hb d_MD_face_152 ?_
                    refine lv_if_le (tgt := 161) hx hb d_MD_face_153 (by decide) (fun c28 => ?_) (fun c28 => ?_)
                    · rw [if_pos c28] at h
                      refine lv_iconst (v := 1) hx hb d_MD_face_161 (by decide) ?_
                      refine lv_goto (tgt := 166) hx hb d_MD_face_162 (by decide) ?_
                      exact W.zret hx hb hr rfl (fun t ht _ => ⟨_, rfl, Option.some.inj h, ht⟩) (fun _ hq => nomatch hq) d_MD_face_166
                    · rw [if_neg c28] at h
                      refine lv_iload hx hb d_MD_face_156 (lv_at hl 0 rfl) ?_
                      refine lv_if_eq (tgt := 165) hx hb d_MD_face_158 (by decide) (fun c29 => ?_) (fun c29 => ?_)
                      · rw [if_pos c29] at h
                        refine lv_iconst (v := 0) hx hb d_MD_face_165 (by decide) ?_
                        exact W.zret hx hb hr rfl (fun t ht _ => ⟨_, rfl, Option.some.inj h, ht⟩) (fun _ hq => nomatch hq) d_MD_face_166
                      · rw [if_neg c29] at h
                        refine lv_iconst (v := 1) hx hb d_MD_face_161 (by decide) ?_
                        refine lv_goto (tgt := 166) hx hb d_MD_face_162 (by decide) ?_
                        exact W.zret hx hb hr rfl (fun t ht _ => ⟨_, rfl, Option.some.inj h, ht⟩) (fun _ hq => nomatch hq) d_MD_face_166
                exact k138 x8 x10 x12 s0 0 h _ (lv_sub hl [2, 3, 4, 1] rfl)
              · rw [if_neg c23] at h
                refine lv_iconst (v := 1) hx hb d_MD_face_133 (by decide) ?_
                refine lv_goto (tgt := 138) hx hb d_MD_face_134 (by decide) ?_
                have k138 : ∀ (x8 : Int64) (x10 : Int64) (x12 : Int64) (x14 : Int64) (s0 : Int32) (h : C_MD_face_138 σ x8 x10 x12 x14 s0 = some out) (ls : Array Slot) (hl : lv_has ls 19 [(8, .long x8), (10, .long x10), (12, .long x12), (14, .long x14)]), W p l e (headSpec wl_MD_face ({ frames := 0, cells := 0, slots := 0, locals := 0 } : Room)).room s m (([.long a0, .long a2, .long a4, .long a6] : List Value).toArray) below meth c s.heap [] 0 0 (MQ below (vp_Si (fun r => r = out)) (([.long a0, .long a2, .long a4, .long a6] : List Value).toArray) s 0 0 (fun _ => False)) (F0 m 138 ls [.int s0]) := by
                  intro x8 x10 x12 x14 s0 h ls hl
                  unfold C_MD_face_138 at h
                  refine lv_istore (lv' := [(18, .int s0), (8, .long x8), (10, .long x10), (12, .long x12), (14, .long x14)]) hx hb d_MD_face_138 hl (by decide) rfl (fun ls hl => ?_)
                  refine lv_lload hx hb d_MD_face_140 (lv_at hl 2 rfl) ?_
                  refine lv_lload hx hb d_MD_face_142 (lv_at hl 4 rfl) ?_
                  refine W.lcmp hx hb d_MD_face_144 ?_
                  refine lv_if_gt (tgt := 165) hx hb d_MD_face_145 (by decide) (fun c24 => ?_) (fun c24 => ?_)
                  · rw [if_pos c24] at h
                    refine lv_iconst (v := 0) hx hb d_MD_face_165 (by decide) ?_
                    exact W.zret hx hb hr rfl (fun t ht _ => ⟨_, rfl, Option.some.inj h, ht⟩) (fun _ hq => nomatch hq) d_MD_face_166
                  · rw [if_neg c24] at h
                    refine lv_lload hx hb d_MD_face_148 (lv_at hl 1 rfl) ?_
                    refine lv_lload hx hb d_MD_face_150 (lv_at hl 3 rfl) ?_
                    refine W.lcmp hx hb d_MD_face_152 ?_
                    refine lv_if_le (tgt := 161) hx hb d_MD_face_153 (by decide) (fun c25 => ?_) (fun c25 => ?_)
                    · rw [if_pos c25] at h
                      refine lv_iconst (v := 1) hx hb d_MD_face_161 (by decide) ?_
                      refine lv_goto (tgt := 166) hx hb d_MD_face_162 (by decide) ?_
                      exact W.zret hx hb hr rfl (fun t ht _ => ⟨_, rfl, Option.some.inj h, ht⟩) (fun _ hq => nomatch hq) d_MD_face_166
                    · rw [if_neg c25] at h
                      refine lv_iload hx hb d_MD_face_156 (lv_at hl 0 rfl) ?_
                      refine lv_if_eq (tgt := 165) hx hb d_MD_face_158 (by decide) (fun c26 => ?_) (fun c26 => ?_)
                      · rw [if_pos c26] at h
                        refine lv_iconst (v := 0) hx hb d_MD_face_165 (by decide) ?_
                        exact W.zret hx hb hr rfl (fun t ht _ => ⟨_, rfl, Option.some.inj h, ht⟩) (fun _ hq => nomatch hq) d_MD_face_166
                      · rw [if_neg c26] at h
                        refine lv_iconst (v := 1) hx hb d_MD_face_161 (by decide) ?_
                        refine lv_goto (tgt := 166) hx hb d_MD_face_162 (by decide) ?_
                        exact W.zret hx hb hr rfl (fun t ht _ => ⟨_, rfl, Option.some.inj h, ht⟩) (fun _ hq => nomatch hq) d_MD_face_166
                exact k138 x8 x10 x12 s0 1 h _ (lv_sub hl [2, 3, 4, 1] rfl)
            exact k58 x8 s0 x6 x6 h _ (lv_sub hl [4, 1, 0] rfl)
        · rw [if_neg c3] at h
          refine lv_lload hx hb d_MD_face_34 (lv_at hl 1 rfl) ?_
          refine lv_goto (tgt := 41) hx hb d_MD_face_36 (by decide) ?_
          refine lv_lstore (lv' := [(12, .long x4), (10, .long s0), (4, .long x4), (6, .long x6), (8, .long x8)]) hx hb d_MD_face_41 hl (by decide) rfl (fun ls hl => ?_)
          refine lv_lload hx hb d_MD_face_43 (lv_at hl 2 rfl) ?_
          refine lv_lload hx hb d_MD_face_45 (lv_at hl 3 rfl) ?_
          refine W.lcmp hx hb d_MD_face_47 ?_
          refine lv_if_le (tgt := 56) hx hb d_MD_face_48 (by decide) (fun c4 => ?_) (fun c4 => ?_)
          · rw [if_pos c4] at h
            refine lv_lload hx hb d_MD_face_56 (lv_at hl 2 rfl) ?_
            have k58 : ∀ (x8 : Int64) (x10 : Int64) (x12 : Int64) (s0 : Int64) (h : C_MD_face_58 σ x8 x10 x12 s0 = some out) (ls : Array Slot) (hl : lv_has ls 19 [(8, .long x8), (10, .long x10), (12, .long x12)]), W p l e (headSpec wl_MD_face ({ frames := 0, cells := 0, slots := 0, locals := 0 } : Room)).room s m (([.long a0, .long a2, .long a4, .long a6] : List Value).toArray) below meth c s.heap [] 0 0 (MQ below (vp_Si (fun r => r = out)) (([.long a0, .long a2, .long a4, .long a6] : List Value).toArray) s 0 0 (fun _ => False)) (F0 m 58 ls [.long s0]) := by
              intro x8 x10 x12 s0 h ls hl
              unfold C_MD_face_58 at h
              refine lv_lstore (lv' := [(14, .long s0), (8, .long x8), (10, .long x10), (12, .long x12)]) hx hb d_MD_face_58 hl (by decide) rfl (fun ls hl => ?_)
              refine lv_lload hx hb d_MD_face_60 (lv_at hl 1 rfl) ?_
              refine lv_lload hx hb d_MD_face_62 (lv_at hl 1 rfl) ?_
              refine lv_lmul hx hb d_MD_face_64 ?_
              refine lv_lload hx hb d_MD_face_65 (lv_at hl 2 rfl) ?_
              refine lv_lload hx hb d_MD_face_67 (lv_at hl 2 rfl) ?_
              refine lv_lmul hx hb d_MD_face_69 ?_
              refine lv_lsub hx hb d_MD_face_70 ?_
              obtain ⟨y13, e_y13, h⟩ := lt1_some h
              refine W.eq (g2 := F0 m 71 ls (.long y13 :: [])) (by rw [e_y13]) ?_
              refine lv_lstore (lv' := [(16, .long y13), (14, .long s0), (8, .long x8), (10, .long x10), (12, .long x12)]) hx hb d_MD_face_71 hl (by decide) rfl (fun ls hl => ?_)
              refine lv_lload hx hb d_MD_face_73 (lv_at hl 4 rfl) ?_
              refine lv_lload hx hb d_MD_face_75 (lv_at hl 1 rfl) ?_
              refine lv_ladd hx hb d_MD_face_77 ?_
              refine lv_lload hx hb d_MD_face_78 (lv_at hl 4 rfl) ?_
              refine lv_lload hx hb d_MD_face_80 (lv_at hl 1 rfl) ?_
              refine lv_ladd hx hb d_MD_face_82 ?_
              refine lv_lmul hx hb d_MD_face_83 ?_
              refine lv_lload hx hb d_MD_face_84 (lv_at hl 2 rfl) ?_
              refine lv_lload hx hb d_MD_face_86 (lv_at hl 3 rfl) ?_
              refine lv_lsub hx hb d_MD_face_88 ?_
              refine lv_lmul hx hb d_MD_face_89 ?_
              refine lv_lload hx hb d_MD_face_90 (lv_at hl 2 rfl) ?_
              refine lv_lload hx hb d_MD_face_92 (lv_at hl 3 rfl) ?_
              refine lv_lsub hx hb d_MD_face_94 ?_
              refine lv_lmul hx hb d_MD_face_95 ?_
              refine lv_lload hx hb d_MD_face_96 (lv_at hl 4 rfl) ?_
              refine lv_lload hx hb d_MD_face_98 (lv_at hl 1 rfl) ?_
              refine lv_lsub hx hb d_MD_face_100 ?_
              refine lv_lload hx hb d_MD_face_101 (lv_at hl 4 rfl) ?_
              refine lv_lload hx hb d_MD_face_103 (lv_at hl 1 rfl) ?_
              refine lv_lsub hx hb d_MD_face_105 ?_
              refine lv_lmul hx hb d_MD_face_106 ?_
              refine lv_lload hx hb d_MD_face_107 (lv_at hl 2 rfl) ?_
              refine lv_lload hx hb d_MD_face_109 (lv_at hl 3 rfl) ?_
              refine lv_ladd hx hb d_MD_face_111 ?_
              refine lv_lmul hx hb d_MD_face_112 ?_
              refine lv_lload hx hb d_MD_face_113 (lv_at hl 2 rfl) ?_
              refine lv_lload hx hb d_MD_face_115 (lv_at hl 3 rfl) ?_
              refine lv_ladd hx hb d_MD_face_117 ?_
              refine lv_lmul hx hb d_MD_face_118 ?_
              refine lv_ladd hx hb d_MD_face_119 ?_
              refine lv_ldc2 (v := 2) hx hb hown (hts _ w_835) d_MD_face_120 ?_
              refine lv_lload hx hb d_MD_face_123 (lv_at hl 0 rfl) ?_
              refine lv_lmul hx hb d_MD_face_125 ?_
              refine lv_lload hx hb d_MD_face_126 (lv_at hl 0 rfl) ?_
              refine lv_lmul hx hb d_MD_face_128 ?_
              refine W.lcmp hx hb d_MD_face_129 ?_
              refine lv_if_lt (tgt := 137) hx hb d_MD_face_130 (by decide) (fun c14 => ?_) (fun c14 => ?_)
              · rw [if_pos c14] at h
                refine lv_iconst (v := 0) hx hb d_MD_face_137 (by decide) ?_
                have k138 : ∀ (x8 : Int64) (x10 : Int64) (x12 : Int64) (x14 : Int64) (s0 : Int32) (h : C_MD_face_138 σ x8 x10 x12 x14 s0 = some out) (ls : Array Slot) (hl : lv_has ls 19 [(8, .long x8), (10, .long x10), (12, .long x12), (14, .long x14)]), W p l e (headSpec wl_MD_face ({ frames := 0, cells := 0, slots := 0, locals := 0 } : Room)).room s m (([.long a0, .long a2, .long a4, .long a6] : List Value).toArray) below meth c s.heap [] 0 0 (MQ below (vp_Si (fun r => r = out)) (([.long a0, .long a2, .long a4, .long a6] : List Value).toArray) s 0 0 (fun _ => False)) (F0 m 138 ls [.int s0]) := by
                  intro x8 x10 x12 x14 s0 h ls hl
                  unfold C_MD_face_138 at h
                  refine lv_istore (lv' := [(18, .int s0), (8, .long x8), (10, .long x10), (12, .long x12), (14, .long x14)]) hx hb d_MD_face_138 hl (by decide) rfl (fun ls hl => ?_)
                  refine lv_lload hx hb d_MD_face_140 (lv_at hl 2 rfl) ?_
                  refine lv_lload hx hb d_MD_face_142 (lv_at hl 4 rfl) ?_
                  refine W.lcmp hx hb d_MD_face_144 ?_
                  refine lv_if_gt (tgt := 165) hx hb d_MD_face_145 (by decide) (fun c18 => ?_) (fun c18 => ?_)
                  · rw [if_pos c18] at h
                    refine lv_iconst (v := 0) hx hb d_MD_face_165 (by decide) ?_
                    exact W.zret hx hb hr rfl (fun t ht _ => ⟨_, rfl, Option.some.inj h, ht⟩) (fun _ hq => nomatch hq) d_MD_face_166
                  · rw [if_neg c18] at h
                    refine lv_lload hx hb d_MD_face_148 (lv_at hl 1 rfl) ?_
                    refine lv_lload hx hb d_MD_face_150 (lv_at hl 3 rfl) ?_
                    refine W.lcmp hx hb d_MD_face_152 ?_
                    refine lv_if_le (tgt := 161) hx hb d_MD_face_153 (by decide) (fun c19 => ?_) (fun c19 => ?_)
                    · rw [if_pos c19] at h
                      refine lv_iconst (v := 1) hx hb d_MD_face_161 (by decide) ?_
                      refine lv_goto (tgt := 166) hx hb d_MD_face_162 (by decide) ?_
                      exact W.zret hx hb hr rfl (fun t ht _ => ⟨_, rfl, Option.some.inj h, ht⟩) (fun _ hq => nomatch hq) d_MD_face_166
                    · rw [if_neg c19] at h
                      refine lv_iload hx hb d_MD_face_156 (lv_at hl 0 rfl) ?_
                      refine lv_if_eq (tgt := 165) hx hb d_MD_face_158 (by decide) (fun c20 => ?_) (fun c20 => ?_)
                      · rw [if_pos c20] at h
                        refine lv_iconst (v := 0) hx hb d_MD_face_165 (by decide) ?_
                        exact W.zret hx hb hr rfl (fun t ht _ => ⟨_, rfl, Option.some.inj h, ht⟩) (fun _ hq => nomatch hq) d_MD_face_166
                      · rw [if_neg c20] at h
                        refine lv_iconst (v := 1) hx hb d_MD_face_161 (by decide) ?_
                        refine lv_goto (tgt := 166) hx hb d_MD_face_162 (by decide) ?_
                        exact W.zret hx hb hr rfl (fun t ht _ => ⟨_, rfl, Option.some.inj h, ht⟩) (fun _ hq => nomatch hq) d_MD_face_166
                exact k138 x8 x10 x12 s0 0 h _ (lv_sub hl [2, 3, 4, 1] rfl)
              · rw [if_neg c14] at h
                refine lv_iconst (v := 1) hx hb d_MD_face_133 (by decide) ?_
                refine lv_goto (tgt := 138) hx hb d_MD_face_134 (by decide) ?_
                have k138 : ∀ (x8 : Int64) (x10 : Int64) (x12 : Int64) (x14 : Int64) (s0 : Int32) (h : C_MD_face_138 σ x8 x10 x12 x14 s0 = some out) (ls : Array Slot) (hl : lv_has ls 19 [(8, .long x8), (10, .long x10), (12, .long x12), (14, .long x14)]), W p l e (headSpec wl_MD_face ({ frames := 0, cells := 0, slots := 0, locals := 0 } : Room)).room s m (([.long a0, .long a2, .long a4, .long a6] : List Value).toArray) below meth c s.heap [] 0 0 (MQ below (vp_Si (fun r => r = out)) (([.long a0, .long a2, .long a4, .long a6] : List Value).toArray) s 0 0 (fun _ => False)) (F0 m 138 ls [.int s0]) := by
                  intro x8 x10 x12 x14 s0 h ls hl
                  unfold C_MD_face_138 at h
                  refine lv_istore (lv' := [(18, .int s0), (8, .long x8), (10, .long x10), (12, .long x12), (14, .long x14)]) hx hb d_MD_face_138 hl (by decide) rfl (fun ls hl => ?_)
                  refine lv_lload hx hb d_MD_face_140 (lv_at hl 2 rfl) ?_
                  refine lv_lload hx hb d_MD_face_142 (lv_at hl 4 rfl) ?_
                  refine W.lcmp hx hb d_MD_face_144 ?_
                  refine lv_if_gt (tgt := 165) hx hb d_MD_face_145 (by decide) (fun c15 => ?_) (fun c15 => ?_)
                  · rw [if_pos c15] at h
                    refine lv_iconst (v := 0) hx hb d_MD_face_165 (by decide) ?_
                    exact W.zret hx hb hr rfl (fun t ht _ => ⟨_, rfl, Option.some.inj h, ht⟩) (fun _ hq => nomatch hq) d_MD_face_166
                  · rw [if_neg c15] at h
                    refine lv_lload hx hb d_MD_face_148 (lv_at hl 1 rfl) ?_
                    refine lv_lload hx hb d_MD_face_150 (lv_at hl 3 rfl) ?_
                    refine W.lcmp hx hb d_MD_face_152 ?_
                    refine lv_if_le (tgt := 161) hx hb d_MD_face_153 (by decide) (fun c16 => ?_) (fun c16 => ?_)
                    · rw [if_pos c16] at h
                      refine lv_iconst (v := 1) hx hb d_MD_face_161 (by decide) ?_
                      refine lv_goto (tgt := 166) hx hb d_MD_face_162 (by decide) ?_
                      exact W.zret hx hb hr rfl (fun t ht _ => ⟨_, rfl, Option.some.inj h, ht⟩) (fun _ hq => nomatch hq) d_MD_face_166
                    · rw [if_neg c16] at h
                      refine lv_iload hx hb d_MD_face_156 (lv_at hl 0 rfl) ?_
                      refine lv_if_eq (tgt := 165) hx hb d_MD_face_158 (by decide) (fun c17 => ?_) (fun c17 => ?_)
                      · rw [if_pos c17] at h
                        refine lv_iconst (v := 0) hx hb d_MD_face_165 (by decide) ?_
                        exact W.zret hx hb hr rfl (fun t ht _ => ⟨_, rfl, Option.some.inj h, ht⟩) (fun _ hq => nomatch hq) d_MD_face_166
                      · rw [if_neg c17] at h
                        refine lv_iconst (v := 1) hx hb d_MD_face_161 (by decide) ?_
                        refine lv_goto (tgt := 166) hx hb d_MD_face_162 (by decide) ?_
                        exact W.zret hx hb hr rfl (fun t ht _ => ⟨_, rfl, Option.some.inj h, ht⟩) (fun _ hq => nomatch hq) d_MD_face_166
                exact k138 x8 x10 x12 s0 1 h _ (lv_sub hl [2, 3, 4, 1] rfl)
            exact k58 x8 s0 x4 x4 h _ (lv_sub hl [4, 1, 0] rfl)
          · rw [if_neg c4] at h
            refine lv_lload hx hb d_MD_face_51 (lv_at hl 3 rfl) ?_
            refine lv_goto (tgt := 58) hx hb d_MD_face_53 (by decide) ?_
            have k58 : ∀ (x8 : Int64) (x10 : Int64) (x12 : Int64) (s0 : Int64) (h : C_MD_face_58 σ x8 x10 x12 s0 = some out) (ls : Array Slot) (hl : lv_has ls 19 [(8, .long x8), (10, .long x10), (12, .long x12)]), W p l e (headSpec wl_MD_face ({ frames := 0, cells := 0, slots := 0, locals := 0 } : Room)).room s m (([.long a0, .long a2, .long a4, .long a6] : List Value).toArray) below meth c s.heap [] 0 0 (MQ below (vp_Si (fun r => r = out)) (([.long a0, .long a2, .long a4, .long a6] : List Value).toArray) s 0 0 (fun _ => False)) (F0 m 58 ls [.long s0]) := by
              intro x8 x10 x12 s0 h ls hl
              unfold C_MD_face_58 at h
              refine lv_lstore (lv' := [(14, .long s0), (8, .long x8), (10, .long x10), (12, .long x12)]) hx hb d_MD_face_58 hl (by decide) rfl (fun ls hl => ?_)
              refine lv_lload hx hb d_MD_face_60 (lv_at hl 1 rfl) ?_
              refine lv_lload hx hb d_MD_face_62 (lv_at hl 1 rfl) ?_
              refine lv_lmul hx hb d_MD_face_64 ?_
              refine lv_lload hx hb d_MD_face_65 (lv_at hl 2 rfl) ?_
              refine lv_lload hx hb d_MD_face_67 (lv_at hl 2 rfl) ?_
              refine lv_lmul hx hb d_MD_face_69 ?_
              refine lv_lsub hx hb d_MD_face_70 ?_
              obtain ⟨y5, e_y5, h⟩ := lt1_some h
              refine W.eq (g2 := F0 m 71 ls (.long y5 :: [])) (by rw [e_y5]) ?_
              refine lv_lstore (lv' := [(16, .long y5), (14, .long s0), (8, .long x8), (10, .long x10), (12, .long x12)]) hx hb d_MD_face_71 hl (by decide) rfl (fun ls hl => ?_)
              refine lv_lload hx hb d_MD_face_73 (lv_at hl 4 rfl) ?_
              refine lv_lload hx hb d_MD_face_75 (lv_at hl 1 rfl) ?_
              refine lv_ladd hx hb d_MD_face_77 ?_
              refine lv_lload hx hb d_MD_face_78 (lv_at hl 4 rfl) ?_
              refine lv_lload hx hb d_MD_face_80 (lv_at hl 1 rfl) ?_
              refine lv_ladd hx hb d_MD_face_82 ?_
              refine lv_lmul hx hb d_MD_face_83 ?_
              refine lv_lload hx hb d_MD_face_84 (lv_at hl 2 rfl) ?_
              refine lv_lload hx hb d_MD_face_86 (lv_at hl 3 rfl) ?_
              refine lv_lsub hx hb d_MD_face_88 ?_
              refine lv_lmul hx hb d_MD_face_89 ?_
              refine lv_lload hx hb d_MD_face_90 (lv_at hl 2 rfl) ?_
              refine lv_lload hx hb d_MD_face_92 (lv_at hl 3 rfl) ?_
              refine lv_lsub hx hb d_MD_face_94 ?_
              refine lv_lmul hx hb d_MD_face_95 ?_
              refine lv_lload hx hb d_MD_face_96 (lv_at hl 4 rfl) ?_
              refine lv_lload hx hb d_MD_face_98 (lv_at hl 1 rfl) ?_
              refine lv_lsub hx hb d_MD_face_100 ?_
              refine lv_lload hx hb d_MD_face_101 (lv_at hl 4 rfl) ?_
              refine lv_lload hx hb d_MD_face_103 (lv_at hl 1 rfl) ?_
              refine lv_lsub hx hb d_MD_face_105 ?_
              refine lv_lmul hx hb d_MD_face_106 ?_
              refine lv_lload hx hb d_MD_face_107 (lv_at hl 2 rfl) ?_
              refine lv_lload hx hb d_MD_face_109 (lv_at hl 3 rfl) ?_
              refine lv_ladd hx hb d_MD_face_111 ?_
              refine lv_lmul hx hb d_MD_face_112 ?_
              refine lv_lload hx hb d_MD_face_113 (lv_at hl 2 rfl) ?_
              refine lv_lload hx hb d_MD_face_115 (lv_at hl 3 rfl) ?_
              refine lv_ladd hx hb d_MD_face_117 ?_
              refine lv_lmul hx hb d_MD_face_118 ?_
              refine lv_ladd hx hb d_MD_face_119 ?_
              refine lv_ldc2 (v := 2) hx hb hown (hts _ w_835) d_MD_face_120 ?_
              refine lv_lload hx hb d_MD_face_123 (lv_at hl 0 rfl) ?_
              refine lv_lmul hx hb d_MD_face_125 ?_
              refine lv_lload hx hb d_MD_face_126 (lv_at hl 0 rfl) ?_
              refine lv_lmul hx hb d_MD_face_128 ?_
              refine W.lcmp hx hb d_MD_face_129 ?_
              refine lv_if_lt (tgt := 137) hx hb d_MD_face_130 (by decide) (fun c6 => ?_) (fun c6 => ?_)
              · rw [if_pos c6] at h
                refine lv_iconst (v := 0) hx hb d_MD_face_137 (by decide) ?_
                have k138 : ∀ (x8 : Int64) (x10 : Int64) (x12 : Int64) (x14 : Int64) (s0 : Int32) (h : C_MD_face_138 σ x8 x10 x12 x14 s0 = some out) (ls : Array Slot) (hl : lv_has ls 19 [(8, .long x8), (10, .long x10), (12, .long x12), (14, .long x14)]), W p l e (headSpec wl_MD_face ({ frames := 0, cells := 0, slots := 0, locals := 0 } : Room)).room s m (([.long a0, .long a2, .long a4, .long a6] : List Value).toArray) below meth c s.heap [] 0 0 (MQ below (vp_Si (fun r => r = out)) (([.long a0, .long a2, .long a4, .long a6] : List Value).toArray) s 0 0 (fun _ => False)) (F0 m 138 ls [.int s0]) := by
                  intro x8 x10 x12 x14 s0 h ls hl
                  unfold C_MD_face_138 at h
                  refine lv_istore (lv' := [(18, .int s0), (8, .long x8), (10, .long x10), (12, .long x12), (14, .long x14)]) hx hb d_MD_face_138 hl (by decide) rfl (fun ls hl => ?_)
                  refine lv_lload hx hb d_MD_face_140 (lv_at hl 2 rfl) ?_
                  refine lv_lload hx hb d_MD_face_142 (lv_at hl 4 rfl) ?_
                  refine W.lcmp hx hb d_MD_face_144 ?_
                  refine lv_if_gt (tgt := 165) hx hb d_MD_face_145 (by decide) (fun c10 => ?_) (fun c10 => ?_)
                  · rw [if_pos c10] at h
                    refine lv_iconst (v := 0) hx hb d_MD_face_165 (by decide) ?_
                    exact W.zret hx hb hr rfl (fun t ht _ => ⟨_, rfl, Option.some.inj h, ht⟩) (fun _ hq => nomatch hq) d_MD_face_166
                  · rw [if_neg c10] at h
                    refine lv_lload hx hb d_MD_face_148 (lv_at hl 1 rfl) ?_
                    refine lv_lload hx hb d_MD_face_150 (lv_at hl 3 rfl) ?_
                    refine W.lcmp hx hb d_MD_face_152 ?_
                    refine lv_if_le (tgt := 161) hx hb d_MD_face_153 (by decide) (fun c11 => ?_) (fun c11 => ?_)
                    · rw [if_pos c11] at h
                      refine lv_iconst (v := 1) hx hb d_MD_face_161 (by decide) ?_
                      refine lv_goto (tgt := 166) hx hb d_MD_face_162 (by decide) ?_
                      exact W.zret hx hb hr rfl (fun t ht _ => ⟨_, rfl, Option.some.inj h, ht⟩) (fun _ hq => nomatch hq) d_MD_face_166
                    · rw [if_neg c11] at h
                      refine lv_iload hx hb d_MD_face_156 (lv_at hl 0 rfl) ?_
                      refine lv_if_eq (tgt := 165) hx hb d_MD_face_158 (by decide) (fun c12 => ?_) (fun c12 => ?_)
                      · rw [if_pos c12] at h
                        refine lv_iconst (v := 0) hx hb d_MD_face_165 (by decide) ?_
                        exact W.zret hx hb hr rfl (fun t ht _ => ⟨_, rfl, Option.some.inj h, ht⟩) (fun _ hq => nomatch hq) d_MD_face_166
                      · rw [if_neg c12] at h
                        refine lv_iconst (v := 1) hx hb d_MD_face_161 (by decide) ?_
                        refine lv_goto (tgt := 166) hx hb d_MD_face_162 (by decide) ?_
                        exact W.zret hx hb hr rfl (fun t ht _ => ⟨_, rfl, Option.some.inj h, ht⟩) (fun _ hq => nomatch hq) d_MD_face_166
                exact k138 x8 x10 x12 s0 0 h _ (lv_sub hl [2, 3, 4, 1] rfl)
              · rw [if_neg c6] at h
                refine lv_iconst (v := 1) hx hb d_MD_face_133 (by decide) ?_
                refine lv_goto (tgt := 138) hx hb d_MD_face_134 (by decide) ?_
                have k138 : ∀ (x8 : Int64) (x10 : Int64) (x12 : Int64) (x14 : Int64) (s0 : Int32) (h : C_MD_face_138 σ x8 x10 x12 x14 s0 = some out) (ls : Array Slot) (hl : lv_has ls 19 [(8, .long x8), (10, .long x10), (12, .long x12), (14, .long x14)]), W p l e (headSpec wl_MD_face ({ frames := 0, cells := 0, slots := 0, locals := 0 } : Room)).room s m (([.long a0, .long a2, .long a4, .long a6] : List Value).toArray) below meth c s.heap [] 0 0 (MQ below (vp_Si (fun r => r = out)) (([.long a0, .long a2, .long a4, .long a6] : List Value).toArray) s 0 0 (fun _ => False)) (F0 m 138 ls [.int s0]) := by
                  intro x8 x10 x12 x14 s0 h ls hl
                  unfold C_MD_face_138 at h
                  refine lv_istore (lv' := [(18, .int s0), (8, .long x8), (10, .long x10), (12, .long x12), (14, .long x14)]) hx hb d_MD_face_138 hl (by decide) rfl (fun ls hl => ?_)
                  refine lv_lload hx hb d_MD_face_140 (lv_at hl 2 rfl) ?_
                  refine lv_lload hx hb d_MD_face_142 (lv_at hl 4 rfl) ?_
                  refine W.lcmp hx hb d_MD_face_144 ?_
                  refine lv_if_gt (tgt := 165) hx hb d_MD_face_145 (by decide) (fun c7 => ?_) (fun c7 => ?_)
                  · rw [if_pos c7] at h
                    refine lv_iconst (v := 0) hx hb d_MD_face_165 (by decide) ?_
                    exact W.zret hx hb hr rfl (fun t ht _ => ⟨_, rfl, Option.some.inj h, ht⟩) (fun _ hq => nomatch hq) d_MD_face_166
                  · rw [if_neg c7] at h
                    refine lv_lload hx hb d_MD_face_148 (lv_at hl 1 rfl) ?_
                    refine lv_lload hx hb d_MD_face_150 (lv_at hl 3 rfl) ?_
                    refine W.lcmp hx hb d_MD_face_152 ?_
                    refine lv_if_le (tgt := 161) hx hb d_MD_face_153 (by decide) (fun c8 => ?_) (fun c8 => ?_)
                    · rw [if_pos c8] at h
                      refine lv_iconst (v := 1) hx hb d_MD_face_161 (by decide) ?_
                      refine lv_goto (tgt := 166) hx hb d_MD_face_162 (by decide) ?_
                      exact W.zret hx hb hr rfl (fun t ht _ => ⟨_, rfl, Option.some.inj h, ht⟩) (fun _ hq => nomatch hq) d_MD_face_166
                    · rw [if_neg c8] at h
                      refine lv_iload hx hb d_MD_face_156 (lv_at hl 0 rfl) ?_
                      refine lv_if_eq (tgt := 165) hx hb d_MD_face_158 (by decide) (fun c9 => ?_) (fun c9 => ?_)
                      · rw [if_pos c9] at h
                        refine lv_iconst (v := 0) hx hb d_MD_face_165 (by decide) ?_
                        exact W.zret hx hb hr rfl (fun t ht _ => ⟨_, rfl, Option.some.inj h, ht⟩) (fun _ hq => nomatch hq) d_MD_face_166
                      · rw [if_neg c9] at h
                        refine lv_iconst (v := 1) hx hb d_MD_face_161 (by decide) ?_
                        refine lv_goto (tgt := 166) hx hb d_MD_face_162 (by decide) ?_
                        exact W.zret hx hb hr rfl (fun t ht _ => ⟨_, rfl, Option.some.inj h, ht⟩) (fun _ hq => nomatch hq) d_MD_face_166
                exact k138 x8 x10 x12 s0 1 h _ (lv_sub hl [2, 3, 4, 1] rfl)
            exact k58 x8 s0 x4 x6 h _ (lv_sub hl [4, 1, 0] rfl)
      exact k24 a4 a6 a0 a2 h _ (lv_sub hl [3, 4, 0] rfl)
section RC
variable {p : Program} {l : Launch} {e : Env} {R : Room} {s : State} {m : MethodId} {args : Array Value} {below : List Frame} {meth : Method} {c : Code} {H : Heap} {locs : List Loc} {cells slots : Nat} {Q : State → Prop}
variable {cc : ByteArray} {pc : Nat} {ls : Array Slot} {rest : List Value} {G : va_G} {ad : Nat → Nat} {cI cZ : ClassId} {σ : Sg} {own : String}
theorem cl_MD_175 (C : CX "PlaceMovesModel" cc p s m args c G cI cZ) (hml : c.maxLocals = ls.size) (hP : va_P G clX (wR ad cI cZ σ) H) {x0 : Int64} {x2 : Int64} {x4 : Int64} {x6 : Int64} {r : Int32} (hg : f_MD_face σ x0 x2 x4 x6 = some r) (hR : 0 + 1 ≤ R.frames ∧ 8 + (19 + 11) + 0 ≤ R.locals) (hrest : (rest.map fun v => v.category).sum ≤ 8) (hd : decode cc pc = .ok (.invokestatic 175, 3)) (hcs : cells + 0 ≤ R.cells ∧ slots + 0 ≤ R.slots) (kk : W p l e R s m args below meth c H locs cells slots Q (F0 m (pc + 3) ls (.int r :: rest))) : W p l e R s m args below meth c H locs cells slots Q (F0 m pc ls (.long x6 :: .long x4 :: .long x2 :: .long x0 :: rest)) :=
  vp_callSi (W.runS (As := [.long x0, .long x2, .long x4, .long x6]) (rest := rest) ⟨C.1, C.2.1, hml, C.2.2.1, C.2.2.2.1⟩ (c_MD_face l G ad cI cZ σ x0 x2 x4 x6 r hg) (va_cwS 4 C.2.2.2.1 (wg_S w_832 w_833 w_8 w_834) rfl rfl rfl (by decide +kernel) hR) ⟨PcR.blind, fun U hU hW => ⟨rfl, by rw [hU]; exact hP, C.2.2.2.2.warm hW⟩⟩ rfl rfl rfl rfl (lv_room hrest) hd hcs) (fun r' e => by subst e; exact kk)
end RC
