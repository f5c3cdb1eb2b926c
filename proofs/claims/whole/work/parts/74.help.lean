/-! the law's helpers: their world is the class's and one array of one long -/
def AH (ad : Nat → Nat) (aO : Nat) : Nat → Prop := fun q => AX ad q ∨ q = aO
def oJ (cJ : ClassId) (aO : Nat) (y : Nat → Int64) : Nat × va_E := (aO, .inl (cJ, 1, .inr (.inl y)))
def wH (ad : Nat → Nat) (cI cZ cJ : ClassId) (aO : Nat) (σ : Sg) (y : Nat → Int64) : va_W := wX ad cI cZ σ ++ [oJ cJ aO y]
def NCl : List (String × String) := [("java/lang/IllegalArgumentException", "java/util/NoSuchElementException"), ("java/lang/IllegalStateException", "java/util/NoSuchElementException"), ("java/lang/IllegalStateException", "java/lang/IllegalArgumentException"), ("java/util/NoSuchElementException", "java/lang/IllegalArgumentException"), ("java/util/NoSuchElementException", "java/lang/IllegalStateException"), ("java/lang/IllegalArgumentException", "java/lang/IllegalStateException")]
/-- what the helpers ask of a state -/
def EH (b0 : Nat) (G : va_G) (cI cZ cJ : ClassId) (U : State) (H : Heap) : Prop := KX G cI cZ U ∧ TE b0 U H ∧ va_K G clX [(cJ, .long)] U ∧ ∀ q ∈ NCl, va_Nc q.1 q.2 U
theorem EH.warm {b0 : Nat} {G : va_G} {cI cZ cJ : ClassId} {s U : State} {H : Heap} (h : EH b0 G cI cZ cJ s H) (hW : s.WarmedH U.vm) : EH b0 G cI cZ cJ U H :=
  ⟨h.1.warm hW, h.2.1.warm hW, va_K.moved hW.alike h.2.2.1, fun q hq => va_Nc.moved hW.alike (h.2.2.2 q hq)⟩
theorem EH.same {b0 : Nat} {G : va_G} {cI cZ cJ : ClassId} {u U : State} {H : Heap} (h : EH b0 G cI cZ cJ u H) (e : u.vm = U.vm) : EH b0 G cI cZ cJ U H :=
  ⟨h.1.same e, h.2.1.same e, va_K.moved (by rw [e]; exact Vm.Alike.refl _) h.2.2.1, fun q hq => va_Nc.moved (by rw [e]; exact Vm.Alike.refl _) (h.2.2.2 q hq)⟩
def PcH (b0 : Nat) (G : va_G) (ad : Nat → Nat) (cI cZ cJ : ClassId) (aO : Nat) (σ : Sg) (y : Nat → Int64) (av : List Value) : Array Value → State → Prop := va_Pc av (fun U => va_P G clX (wH ad cI cZ cJ aO σ y) U.heap ∧ EH b0 G cI cZ cJ U U.heap)
theorem PcH.blind {b0 : Nat} {G : va_G} {ad : Nat → Nat} {cI cZ cJ : ClassId} {aO : Nat} {σ : Sg} {y : Nat → Int64} {av : List Value} : FrameBlind (PcH b0 G ad cI cZ cJ aO σ y av) := fun _ _ _ _ h => ⟨h.1, h.2.1, h.2.2.same rfl⟩
def QH (G : va_G) (ad : Nat → Nat) (cI cZ cJ : ClassId) (aO : Nat) (out : Int32 × (Nat → Int64) × Sg) : Array Value → State → Outcome → State → Prop := va_Qi (fun r (_ : Unit) => r = out.1) (fun _ t => va_P G clX (wH ad cI cZ cJ aO out.2.2 out.2.1) t.heap) (AH ad aO)
/-- where the helpers' cells lie -/
def DH (b0 : Nat) (ad : Nat → Nat) (aO : Nat) : Prop := DX ad ∧ (∀ k, k < 32 → b0 ≤ ad k) ∧ (∀ k, k < 32 → ad k ≠ aO) ∧ b0 ≤ aO
theorem wX_len (ad : Nat → Nat) (cI cZ : ClassId) (σ : Sg) : (wX ad cI cZ σ).length = 32 := rfl
section HP
variable {b0 : Nat} {G : va_G} {ad : Nat → Nat} {cI cZ cJ : ClassId} {aO : Nat} {σ : Sg} {y : Nat → Int64} {H H1 : Heap}
theorem wH_cls (h : va_P G clX (wH ad cI cZ cJ aO σ y) H) : va_P G clX (wX ad cI cZ σ) H := fun k q hk => h k q (by
  unfold wH
  rw [List.getElem?_append_left (List.getElem?_eq_some_iff.mp hk).1]
  exact hk)
theorem wH_out (h : va_P G clX (wH ad cI cZ cJ aO σ y) H) : va_at G clX (oJ cJ aO y) H := h 32 _ rfl
theorem wH_mk (h : va_P G clX (wX ad cI cZ σ) H) (ho : va_at G clX (oJ cJ aO y) H) : va_P G clX (wH ad cI cZ cJ aO σ y) H := h.app (fun k q hk => by
  have h0 : k < 1 := (List.getElem?_eq_some_iff.mp hk).1
  rw [show k = 0 by omega] at hk
  cases hk
  exact ho)
theorem DH.d (hD : DH b0 ad aO) : va_D (AH ad aO) (wH ad cI cZ cJ aO σ y) := by
  refine va_D.app ((DX.d hD.1).weaken (fun _ _ _ h => Or.inl h)) ⟨fun i j p q hi hj _ => ?_, fun k q hk => ?_⟩ (fun i j p q hp hq e => ?_)
  · have h1 : i < 1 := (List.getElem?_eq_some_iff.mp hi).1
    have h2 : j < 1 := (List.getElem?_eq_some_iff.mp hj).1
    omega
  · have h1 : k < 1 := (List.getElem?_eq_some_iff.mp hk).1
    rw [show k = 0 by omega] at hk
    cases hk
    exact Or.inr rfl
  · have h1 : j < 1 := (List.getElem?_eq_some_iff.mp hq).1
    rw [show j = 0 by omega] at hq
    cases hq
    obtain ⟨h3, h4⟩ := wX_at hp
    exact hD.2.2.1 i h3 (h4.symm.trans e)
theorem DH.nAX (hD : DH b0 ad aO) : ¬ AX ad aO := fun ⟨k, hk, e⟩ => hD.2.2.1 k hk e.symm
end HP
section HL
variable {p : Program} {l : Launch} {e : Env} {R : Room} {s : State} {m : MethodId} {args : Array Value} {below : List Frame} {meth : Method} {c : Code} {H : Heap} {locs : List Loc} {cells slots : Nat} {Q : State → Prop}
variable {cc bytes : ByteArray} {pc : Nat} {ls : Array Slot} {rest As : List Value} {b0 : Nat} {G : va_G} {ad : Nat → Nat} {cI cZ cJ : ClassId} {aO : Nat} {σ : Sg} {y : Nat → Int64} {own : String} {yy : MethodName} {rm : Room} {maxL n index : Nat} {ret : Option FieldType} {ws : List Cond}
theorem tx_free {Pc : Array Value → State → Prop} {Qc : Array Value → State → Outcome → State → Prop} {mc ms : Nat} {free free' : Addr → Prop} (h : tx_Met l yy ws rm Pc Qc mc ms free) (k : ∀ q, free q → free' q) : tx_Met l yy ws rm Pc Qc mc ms free' := by
  intro p e ha hc hk s m args below hf happ hP hK
  obtain ⟨n, o, h1, h2, h3, h4, L, h5, h6⟩ := h p e ha hc hk s m args below hf happ hP hK
  exact ⟨n, o, h1, h2, h3, h4, L, h5, fun q hq => k _ (h6 q hq)⟩
/-- a reading method's contract as a writing one's -/
theorem tx_asX {av : List Value} {out : Nat × Int32} (h : tx_Met l yy ws rm (PcT b0 G ad cI cZ σ av) (QTi out) (cE out.1) (6 * cE out.1) (fun _ => False)) : tx_Met l yy ws rm (PcT b0 G ad cI cZ σ av) (QXi G ad cI cZ (out.1, out.2, σ)) (cE out.1) (6 * cE out.1) (AX ad) := by
  refine tx_free (tx_mono h (fun a st o t hP hq => ?_)) (fun _ z => z.elim)
  have hW : WS G ad cI cZ st σ st.heap [] := ⟨hP.2.1, va_S.rf⟩
  by_cases z : out.1 = 0
  · obtain ⟨h1, h2⟩ := hq.1 z
    exact ⟨by show va_P _ _ _ t.heap; rw [h2]; exact hP.2.1, ⟨by rw [h2]; exact Nat.le_refl _, fun q _ _ => by rw [h2]⟩, fun _ => h1, fun z' => absurd z z'⟩
  · obtain ⟨g1, g2, g3⟩ := qx_w hW (hq.2 z)
    exact ⟨g1, g2, fun z' => absurd z' z, fun _ => g3⟩
theorem hl_pre (hD : DH b0 ad aO) (hP : va_P G clX (wH ad cI cZ cJ aO σ y) H) (hE : EH b0 G cI cZ cJ s H) : PreV s H "PlaceMoves" (ad 0) (PcT b0 G ad cI cZ σ (.ref (ad 0) :: As)) As :=
  ⟨PcT.blind, va_recv hE.1.1 (wH_cls hP) (ci := 0) (q0 := 0) rfl rfl, fun U hU hZ => ⟨rfl, by rw [hU]; exact wH_cls hP, hE.1.warm hZ, by rw [hU]; exact hE.2.1.warm hZ⟩⟩
theorem hl_ret {r : Nat × Int32 × Sg} (S : CallFix p m c cc ls.size s args WG own) (hM : tx_Met l yy ws rm (PcT b0 G ad cI cZ σ (.ref (ad 0) :: As)) (QXi G ad cI cZ r) (cE r.1) (6 * cE r.1) (AX ad)) (cw : CallW R s args own "PlaceMoves" index yy bytes maxL ret ws rm (cE r.1) (6 * cE r.1) n)
    (hD : DH b0 ad aO) (hP : va_P G clX (wH ad cI cZ cJ aO σ y) H) (hE : EH b0 G cI cZ cJ s H) (hS : va_S (AH ad aO) s.heap H locs) (z : r.1 = 0) (hn : As.length = n) (hrest : (rest.map fun v => v.category).sum ≤ 8) (hd : decode cc pc = .ok (.invokevirtual index, 3)) (hcs : cells ≤ R.cells ∧ slots ≤ R.slots)
    (kk : ∀ (H1 : Heap) (locs1 : List Loc), va_P G clX (wH ad cI cZ cJ aO r.2.2 y) H1 → va_S (AH ad aO) s.heap H1 locs1 → W p l e R s m args below meth c H1 locs1 cells slots Q (F0 m (pc + 3) ls (.int r.2.1 :: rest))) : W p l e R s m args below meth c H locs cells slots Q (F0 m pc ls (As.reverse ++ .ref (ad 0) :: rest)) := by
  obtain ⟨r1, v, σ'⟩ := r
  dsimp only at z
  subst z
  have M := met_mono (Qd := va_Qi (fun r (_ : Unit) => r = v) (fun _ t => va_P G clX (wX ad cI cZ σ') t.heap) (AX ad)) (tx_toMet hM (fun a st o t q9 => ⟨_, q9.2.2.1 rfl⟩)) (fun a st o t _ q9 => ⟨⟨v, (), q9.2.2.1 rfl, rfl, q9.1⟩, q9.2.1⟩)
  have hlt : aO < H.size := (wH_out hP).lt
  refine va_calli (va_runV (As := As) (rest := rest) S M cw (hl_pre hD hP hE) rfl hn rfl rfl (lv_room hrest) hd hcs) hS (fun _ _ h => Or.inl h) (fun _ h => Or.inl h) (fun r' u t H1 locs1 ht _ hp hB _ hk hS1 => ?_)
  subst hp
  exact kk H1 locs1 (wH_mk (by rw [← ht]; exact hB) ((wH_out hP).kept (hk aO hlt hD.nAX))) hS1
theorem hl_retv {r : Nat × Sg} (S : CallFix p m c cc ls.size s args WG own) (hM : tx_Met l yy ws rm (PcT b0 G ad cI cZ σ (.ref (ad 0) :: As)) (QXv G ad cI cZ r) (cE r.1) (6 * cE r.1) (AX ad)) (cw : CallW R s args own "PlaceMoves" index yy bytes maxL ret ws rm (cE r.1) (6 * cE r.1) n)
    (hD : DH b0 ad aO) (hP : va_P G clX (wH ad cI cZ cJ aO σ y) H) (hE : EH b0 G cI cZ cJ s H) (hS : va_S (AH ad aO) s.heap H locs) (z : r.1 = 0) (hn : As.length = n) (hrest : (rest.map fun v => v.category).sum ≤ 8) (hd : decode cc pc = .ok (.invokevirtual index, 3)) (hcs : cells ≤ R.cells ∧ slots ≤ R.slots)
    (kk : ∀ (H1 : Heap) (locs1 : List Loc), va_P G clX (wH ad cI cZ cJ aO r.2 y) H1 → va_S (AH ad aO) s.heap H1 locs1 → W p l e R s m args below meth c H1 locs1 cells slots Q (F0 m (pc + 3) ls rest)) : W p l e R s m args below meth c H locs cells slots Q (F0 m pc ls (As.reverse ++ .ref (ad 0) :: rest)) := by
  obtain ⟨r1, σ'⟩ := r
  dsimp only at z
  subst z
  have M := met_mono (Qd := va_Qv (fun _ : Unit => True) (fun _ t => va_P G clX (wX ad cI cZ σ') t.heap) (AX ad)) (tx_toMet hM (fun a st o t q9 => ⟨_, q9.2.2.1 rfl⟩)) (fun a st o t _ q9 => ⟨⟨(), q9.2.2.1 rfl, trivial, q9.1⟩, q9.2.1⟩)
  have hlt : aO < H.size := (wH_out hP).lt
  refine va_callv (va_runV (As := As) (rest := rest) S M cw (hl_pre hD hP hE) rfl hn rfl rfl (lv_room hrest) hd hcs) hS (fun _ _ h => Or.inl h) (fun _ h => Or.inl h) (fun u t H1 locs1 ht _ _ hB _ hk hS1 => ?_)
  exact kk H1 locs1 (wH_mk (by rw [← ht]; exact hB) ((wH_out hP).kept (hk aO hlt hD.nAX))) hS1
theorem hl_catch {k : Nat} {σ' : Sg} {Qc : Array Value → State → Outcome → State → Prop} (S : CallFix p m c cc ls.size s args WG own) (hM : tx_Met l yy ws rm (PcT b0 G ad cI cZ σ (.ref (ad 0) :: As)) Qc (cE k) (6 * cE k) (AX ad)) (cw : CallW R s args own "PlaceMoves" index yy bytes maxL ret ws rm (cE k) (6 * cE k) n)
    (hQ : ∀ a st o t, Qc a st o t → va_P G clX (wX ad cI cZ σ') t.heap ∧ va_F (AX ad) st t ∧ ThrX k st.heap.size o t)
    (hD : DH b0 ad aO) (hP : va_P G clX (wH ad cI cZ cJ aO σ y) H) (hE : EH b0 G cI cZ cJ s H) (hS : va_S (AH ad aO) s.heap H locs) (z : k ≠ 0) (hn : As.length = n) (hrest : (rest.map fun v => v.category).sum ≤ 8) (hd : decode cc pc = .ok (.invokevirtual index, 3)) (hcs : cells + 1 ≤ R.cells ∧ slots + 6 ≤ R.slots)
    {name : String} (pre : List ExceptionTableEntry) (x : ExceptionTableEntry) (suf : List ExceptionTableEntry) (hsplit : c.exceptionTable.toList = pre ++ x :: suf)
    (hpass : ∀ w ∈ pre, covers w pc = false ∨ (w.catchType ≠ 0 ∧ ∃ nm : String, (Cond.classLink own w.catchType nm).before args s = true ∧ va_Nc (exN k) nm s)) (hx : covers x pc = true) (h0 : x.catchType ≠ 0)
    (hlink : (Cond.classLink own x.catchType name).before args s = true) (hcast : (Cond.castable (exN k) name).before args s = true)
    (kk : ∀ (q : Nat) (H1 : Heap) (locs1 : List Loc), va_P G clX (wH ad cI cZ cJ aO σ' y) H1 → va_S (AH ad aO) s.heap H1 locs1 → W p l e R s m args below meth c H1 locs1 (cells + 1) (slots + 6) Q (F0 m x.handlerPc ls [.ref q])) : W p l e R s m args below meth c H locs cells slots Q (F0 m pc ls (As.reverse ++ .ref (ad 0) :: rest)) := by
  have hlt : aO < H.size := (wH_out hP).lt
  have hc1 : cE k = 1 := cE_one z
  refine tx_Vcatch (As := As) (rest := rest) (g := F0 m pc ls (As.reverse ++ .ref (ad 0) :: rest)) S hM cw (hl_pre hD hP hE) (E := exN k) (fun a st o t q9 => by obtain ⟨q, ce, h1, h2, h3, h4, -⟩ := (hQ a st o t q9).2.2; exact ⟨q, ce, h1, h2, h3, h4⟩) rfl hn rfl rfl (lv_room hrest) hd (by rw [hc1]; exact hcs) pre x suf hsplit hpass hx h0 hlink hcast (fun q st t H1 locs1 hst ht hq hL => ?_)
  rw [hc1]
  obtain ⟨g1, ⟨g2, g3⟩, -⟩ := hQ _ _ _ _ hq
  rw [hst] at g2 g3
  rw [ht] at g1 g2 g3
  refine kk q H1 locs1 (wH_mk g1 ((wH_out hP).kept (g3 aO hlt hD.nAX))) ⟨Nat.le_trans hS.1 g2, fun w hw hn => ?_, fun w hw => ?_⟩
  · rw [g3 w (Nat.lt_of_lt_of_le hw hS.1) (fun h => hn (Or.inl h))]
    exact hS.2.1 w hw hn
  · rcases hL w hw with h | h
    · exact hS.2.2 w h
    · exact Or.inl h
end HL
