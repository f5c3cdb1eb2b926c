/-! the law's own world: the class's cells, its array of one long, the reference's cells -/
def wL (ad : Nat → Nat) (cI cZ cJ : ClassId) (aO : Nat) (am : Nat → Nat) (σ : Sg) (y : Nat → Int64) (τ : Sg) : va_W := wH ad cI cZ cJ aO σ y ++ wR am cI cZ τ
theorem wH_len (ad : Nat → Nat) (cI cZ cJ : ClassId) (aO : Nat) (σ : Sg) (y : Nat → Int64) : (wH ad cI cZ cJ aO σ y).length = 33 := rfl
/-- where its cells lie -/
def DL (b0 : Nat) (ad : Nat → Nat) (aO : Nat) (am : Nat → Nat) : Prop := DH b0 ad aO ∧ DR am ∧ (∀ k, k < 24 → b0 ≤ am k) ∧ (∀ k, k < 24 → am k ≠ aO) ∧ ∀ j k, j < 32 → k < 24 → ad j ≠ am k
def EL (p : Program) (s : State) (m : MethodId) (meth : Method) (c : Code) (b L : Nat) (xs : Nat → Int32) (G : va_G) (cI cZ cJ : ClassId) (ad : Nat → Nat) (aO : Nat) (am : Nat → Nat) : Prop :=
  p.tables.exec = Jvm.exec ∧ c.code = code ∧ meth.sig.returnType = ret ∧ c.maxLocals = 7 ∧ s.vm.findClass "PlaceMovesLaw" = some m.cls ∧ (∀ w ∈ WG, w.before #[Value.ref b] s = true) ∧ va_X b L xs s s.heap ∧ b < s.heap.size ∧ meth.locks = false ∧ L ≤ 3072 ∧ EH s.heap.size G cI cZ cJ s s.heap ∧ DL s.heap.size ad aO am
section LB
variable {p : Program} {l : Launch} {e : Env} {R : Room} {s : State} {m : MethodId} {args : Array Value} {below : List Frame} {meth : Method} {c : Code} {H : Heap} {locs : List Loc} {cells slots : Nat} {Q : State → Prop}
variable {cc bytes : ByteArray} {pc : Nat} {ls : Array Slot} {rest As : List Value} {G : va_G} {ad am : Nat → Nat} {cI cZ cJ : ClassId} {aO b0 : Nat} {σ τ : Sg} {y : Nat → Int64} {own : String} {yy : MethodName} {rm : Room} {maxL n index nL mc ms : Nat} {ret : Option FieldType} {ws ws' Ts : List Cond} {hh : List (Nat × Nat × Nat × Nat)} {Pc : Array Value → State → Prop} {Qc : Array Value → State → Outcome → State → Prop} {free : Addr → Prop}
theorem wL_h (h : va_P G clX (wL ad cI cZ cJ aO am σ y τ) H) : va_P G clX (wH ad cI cZ cJ aO σ y) H := fun k q hk => h k q (by
  unfold wL
  rw [List.getElem?_append_left (List.getElem?_eq_some_iff.mp hk).1]
  exact hk)
theorem wL_m (h : va_P G clX (wL ad cI cZ cJ aO am σ y τ) H) : va_P G clX (wR am cI cZ τ) H := fun k q hk => h (33 + k) q (by
  unfold wL
  rw [List.getElem?_append_right (by rw [wH_len]; omega), wH_len, Nat.add_sub_cancel_left]
  exact hk)
theorem wL_mk (h : va_P G clX (wH ad cI cZ cJ aO σ y) H) (h2 : va_P G clX (wR am cI cZ τ) H) : va_P G clX (wL ad cI cZ cJ aO am σ y τ) H := h.app h2
theorem EH.kept {U : State} {H0 H1 : Heap} (h : EH b0 G cI cZ cJ U H0) (hq : ∀ a : Nat, a < b0 → a < H0.size → H1[a]? = H0[a]?) : EH b0 G cI cZ cJ U H1 := ⟨h.1, h.2.1.kept hq, h.2.2⟩
/-- a static call of a method with an exception table -/
theorem tx_runSW (S : CallFix p m c cc nL s args Ts own) (hM : Met l yy ws rm Pc Qc mc ms free) (hrc : rm.cells = mc) (hrs : rm.slots = ms) (hR : rm.frames + 1 ≤ R.frames ∧ 8 + (maxL + 11) + rm.locals ≤ R.locals) (hws : ∀ w ∈ ws, ∀ (a' : Array Value) (U : State), s.WarmedH U.vm → w.before a' U = true) (hcw : Cond.codeWith yy bytes maxL ret hh ∈ ws) (hcode : (Cond.codeWith yy bytes maxL ret hh).before args s = true) (hini : (Cond.initialized yy.cls).before args s = true) (hl : (Cond.methodLink own index yy).before args s = true) (hst : (Cond.static yy).before args s = true)
    (hd : yy.cls ≠ "java/lang/invoke/MethodHandle" ∧ yy.cls ≠ "java/lang/invoke/VarHandle" ∧ (parseMethodDescriptor yy.desc).map (fun d => d.parameters.length) = some n) (hp : PreS s H Pc As) {g : JFrame}
    (hg : g.method = m) (hn : As.length = n) (hsize : g.locals.size = nL) (hstack : g.stack = As.reverse ++ rest) (hW : 2 * g.monitorRoom + (rest.map fun v => v.category).sum ≤ 8) (hdg : decode cc g.pc = .ok (.invokestatic index, 3)) (hf : cells + mc ≤ R.cells ∧ slots + ms ≤ R.slots) :
    va_Run p l e R s m args below meth c H locs cells slots mc ms g rest (Qc As.toArray) (free) := by
  have hK : Back l R p e below s args yy 3 8 (PreOf R mc ms Pc) (PostOf Qc mc ms free) := va_backW (hh := hh) (bytes := bytes) (maxL := maxL) (ret := ret) hM hp.1 hrc hrs hR.1 hR.2 hws hcw (fun a' U hW => word_at hW (Or.inl (by first | rfl | simp [Cond.onTables, Cond.keeps, Cond.steady])) hini)
  obtain ⟨hx, hb, hml, ho, -⟩ := S
  subst hb
  intro T hT X
  obtain ⟨mk, methM, cM, hnamed, hmethM, -, -, -, -, -, -, hsigM⟩ := Cond.codeWith_spec hcode
  have hstatic : methM.isStatic = true := Cond.static_spec hnamed hmethM hst
  obtain ⟨kP, hkP, -⟩ := className_of_methodNamed hnamed
  have hinitP : kP.init = .initialized := Cond.initialized_spec (findClass_of_methodNamed hnamed) hkP hini
  have hlen : ∀ sig, parseMethodDescriptor yy.desc = some sig → As.length = sig.parameters.length := fun sig h => by
    have h2 := hd.2.2
    rw [h] at h2
    exact hn.trans (Option.some.inj h2).symm
  obtain ⟨vm₁, X₁, hstep₁⟩ := X.invokestatic hx ho hl hnamed hmethM hstatic hkP hinitP ⟨hd.1, hd.2.1⟩ (g := g) hg (argsL := As) (rest := rest) (hlen _ hsigM) hstack hdg
  obtain ⟨v, ⟨U', l2, c2, s2⟩, X', ⟨g', mk', t, L, e1, e2, hq, h1, hL, h2, h3⟩, st⟩ := hK m meth c ⟨T.setVm vm₁, locs, cells, slots⟩ { g with stack := rest } (.invokestatic index) mk As.toArray X₁ hg (hsize.trans hml.symm) hdg hW (X₁.named hnamed) ⟨hf.1, hf.2, hp.2 (T.setVm vm₁) hT X₁.warmed⟩
  dsimp only [Pt.U, Pt.locs, Pt.cells, Pt.slots] at X' e1 e2 h1 h2 h3 st
  subst h1; subst h2; subst h3
  exact ⟨v, (T.setVm vm₁).calling g' mk' As.toArray, t, U', L, hT, X', hL, e1, e2, hq, fun tg h => hstep₁ _ fun acts => by rw [doInvoke_state]; exact st.trans h⟩
theorem lw_env (hE : EH s.heap.size G cI cZ cJ s s.heap) (hS : va_S (fun q : Nat => s.heap.size ≤ q) s.heap H locs) : EH s.heap.size G cI cZ cJ s H := hE.kept fun a _ hl => hS.2.1 a hl (Nat.not_le.mpr hl)
/-- a helper's call, in the law -/
theorem lw_help {out : Int32 × (Nat → Int64) × Sg} (S : CallFix p m c cc ls.size s args WG "PlaceMovesLaw") (hD : DL s.heap.size ad aO am) (hE : EH s.heap.size G cI cZ cJ s s.heap) (hM : Met l yy (.codeWith yy bytes maxL ret hh :: WG) rm (PcH s.heap.size G ad cI cZ cJ aO σ y As) (QH G ad cI cZ cJ aO out) 1 6 (AH ad aO)) (hrc : rm.cells = 1) (hrs : rm.slots = 6) (hR : rm.frames + 1 ≤ R.frames ∧ 8 + (maxL + 11) + rm.locals ≤ R.locals)
    (hc : Cond.codeWith yy bytes maxL ret hh ∈ WG) (hini : Cond.initialized yy.cls ∈ WG) (hl : Cond.methodLink "PlaceMovesLaw" index yy ∈ WG) (hst : Cond.static yy ∈ WG) (hd : yy.cls ≠ "java/lang/invoke/MethodHandle" ∧ yy.cls ≠ "java/lang/invoke/VarHandle" ∧ (parseMethodDescriptor yy.desc).map (fun d => d.parameters.length) = some n)
    (hP : va_P G clX (wL ad cI cZ cJ aO am σ y τ) H) (hS : va_S (fun q : Nat => s.heap.size ≤ q) s.heap H locs) (hn : As.length = n) (hrest : (rest.map fun v => v.category).sum ≤ 8) (hdg : decode cc pc = .ok (.invokestatic index, 3)) (hf : cells + 1 ≤ R.cells ∧ slots + 6 ≤ R.slots)
    (kk : ∀ (H1 : Heap) (locs1 : List Loc), va_P G clX (wL ad cI cZ cJ aO am out.2.2 out.2.1 τ) H1 → va_S (fun q : Nat => s.heap.size ≤ q) s.heap H1 locs1 → W p l e R s m args below meth c H1 locs1 (cells + 1) (slots + 6) Q (F0 m (pc + 3) ls (.int out.1 :: rest))) : W p l e R s m args below meth c H locs cells slots Q (F0 m pc ls (As.reverse ++ rest)) := by
  obtain ⟨hx, hb, hml, ho, hts⟩ := S
  have hA : ∀ q, AH ad aO q → s.heap.size ≤ q := fun q h => by
    rcases h with ⟨k, hk, rfl⟩ | rfl
    · exact hD.1.2.1 k hk
    · exact hD.1.2.2.2
  refine va_calli (tx_runSW (As := As) (rest := rest) (hh := hh) (bytes := bytes) (maxL := maxL) (ret := ret) ⟨hx, hb, hml, ho, hts⟩ hM hrc hrs hR (fun w hw a' U hZ => by
      rcases List.mem_cons.mp hw with rfl | hw
      · exact word_at hZ (wg_good hc) (hts _ hc)
      · exact word_at hZ (wg_good hw) (hts _ hw)) List.mem_cons_self (hts _ hc) (hts _ hini) (hts _ hl) (hts _ hst) hd ⟨PcH.blind, fun U hU hZ => ⟨rfl, by rw [hU]; exact wL_h hP, by rw [hU]; exact (lw_env hE hS).warm hZ⟩⟩ rfl hn rfl rfl (lv_room hrest) hdg hf) hS (fun q _ h => hA q h) hA (fun r' u t H1 locs1 ht _ hp hB _ hk hS1 => ?_)
  subst hp
  refine kk H1 locs1 (wL_mk (by rw [← ht]; exact hB) ((wL_m hP).kept (fun k q hq => hk _ ((wL_m hP) k q hq).lt (fun h => ?_)))) hS1
  obtain ⟨h1, h2⟩ := wR_at hq
  rcases h with ⟨j, hj, e9⟩ | e9
  · exact hD.2.2.2.2 j k hj h1 (e9.symm.trans h2)
  · exact hD.2.2.2.1 k h1 (h2.symm.trans e9)
/-- a call of the reference, in the law -/
theorem lw_model {out : Int32 × Sg} (S : CallFix p m c cc ls.size s args WG "PlaceMovesLaw") (hD : DL s.heap.size ad aO am) (hE : EH s.heap.size G cI cZ cJ s s.heap) (hM : Met l yy ws rm (PcR G am cI cZ τ (.ref (am 0) :: As)) (QRi G am cI cZ out) 0 0 (AR am)) (cw : CallW R s args "PlaceMovesLaw" "PlaceMovesModel" index yy bytes maxL ret ws rm 0 0 n)
    (hP : va_P G clX (wL ad cI cZ cJ aO am σ y τ) H) (hS : va_S (fun q : Nat => s.heap.size ≤ q) s.heap H locs) (hn : As.length = n) (hrest : (rest.map fun v => v.category).sum ≤ 8) (hdg : decode cc pc = .ok (.invokevirtual index, 3)) (hf : cells ≤ R.cells ∧ slots ≤ R.slots)
    (kk : ∀ (H1 : Heap) (locs1 : List Loc), va_P G clX (wL ad cI cZ cJ aO am σ y out.2) H1 → va_S (fun q : Nat => s.heap.size ≤ q) s.heap H1 locs1 → W p l e R s m args below meth c H1 locs1 cells slots Q (F0 m (pc + 3) ls (.int out.1 :: rest))) : W p l e R s m args below meth c H locs cells slots Q (F0 m pc ls (As.reverse ++ .ref (am 0) :: rest)) := by
  have hA : ∀ q, AR am q → s.heap.size ≤ q := fun q ⟨k, hk, e9⟩ => by rw [e9]; exact hD.2.2.1 k hk
  refine va_calli (va_runV (As := As) (rest := rest) S hM cw ⟨PcR.blind, va_recv hE.1.1 (wL_m hP) (ci := 7) (q0 := 0) rfl rfl, fun U hU hZ => ⟨rfl, by rw [hU]; exact wL_m hP, hE.1.warm hZ⟩⟩ rfl hn rfl rfl (lv_room hrest) hdg hf) hS (fun q _ h => hA q h) hA (fun r' u t H1 locs1 ht _ hp hB _ hk hS1 => ?_)
  subst hp
  refine kk H1 locs1 (wL_mk ((wL_h hP).kept (fun k q hq => hk _ ((wL_h hP) k q hq).lt (fun h => ?_))) (by rw [← ht]; exact hB)) hS1
  obtain ⟨j, hj, e9⟩ := h
  by_cases hk2 : k < 32
  · have hq2 : (wX ad cI cZ σ)[k]? = some q := by
      unfold wH at hq
      rw [List.getElem?_append_left (by rw [wX_len]; exact hk2)] at hq
      exact hq
    obtain ⟨h1, h2⟩ := wX_at hq2
    exact hD.2.2.2.2 k j h1 hj (h2.symm.trans e9)
  · have hlt : k < 33 := by have := (List.getElem?_eq_some_iff.mp hq).1; rw [wH_len] at this; exact this
    rw [show k = 32 by omega] at hq
    cases hq
    exact hD.2.2.2.1 j hj e9.symm
theorem lw_modelv {out : Sg} (S : CallFix p m c cc ls.size s args WG "PlaceMovesLaw") (hD : DL s.heap.size ad aO am) (hE : EH s.heap.size G cI cZ cJ s s.heap) (hM : Met l yy ws rm (PcR G am cI cZ τ (.ref (am 0) :: As)) (QRv G am cI cZ out) 0 0 (AR am)) (cw : CallW R s args "PlaceMovesLaw" "PlaceMovesModel" index yy bytes maxL ret ws rm 0 0 n)
    (hP : va_P G clX (wL ad cI cZ cJ aO am σ y τ) H) (hS : va_S (fun q : Nat => s.heap.size ≤ q) s.heap H locs) (hn : As.length = n) (hrest : (rest.map fun v => v.category).sum ≤ 8) (hdg : decode cc pc = .ok (.invokevirtual index, 3)) (hf : cells ≤ R.cells ∧ slots ≤ R.slots)
    (kk : ∀ (H1 : Heap) (locs1 : List Loc), va_P G clX (wL ad cI cZ cJ aO am σ y out) H1 → va_S (fun q : Nat => s.heap.size ≤ q) s.heap H1 locs1 → W p l e R s m args below meth c H1 locs1 cells slots Q (F0 m (pc + 3) ls rest)) : W p l e R s m args below meth c H locs cells slots Q (F0 m pc ls (As.reverse ++ .ref (am 0) :: rest)) := by
  have hA : ∀ q, AR am q → s.heap.size ≤ q := fun q ⟨k, hk, e9⟩ => by rw [e9]; exact hD.2.2.1 k hk
  refine va_callv (va_runV (As := As) (rest := rest) S hM cw ⟨PcR.blind, va_recv hE.1.1 (wL_m hP) (ci := 7) (q0 := 0) rfl rfl, fun U hU hZ => ⟨rfl, by rw [hU]; exact wL_m hP, hE.1.warm hZ⟩⟩ rfl hn rfl rfl (lv_room hrest) hdg hf) hS (fun q _ h => hA q h) hA (fun u t H1 locs1 ht _ _ hB _ hk hS1 => ?_)
  refine kk H1 locs1 (wL_mk ((wL_h hP).kept (fun k q hq => hk _ ((wL_h hP) k q hq).lt (fun h => ?_))) (by rw [← ht]; exact hB)) hS1
  obtain ⟨j, hj, e9⟩ := h
  by_cases hk2 : k < 32
  · have hq2 : (wX ad cI cZ σ)[k]? = some q := by
      unfold wH at hq
      rw [List.getElem?_append_left (by rw [wX_len]; exact hk2)] at hq
      exact hq
    obtain ⟨h1, h2⟩ := wX_at hq2
    exact hD.2.2.2.2 k j h1 hj (h2.symm.trans e9)
  · have hlt : k < 33 := by have := (List.getElem?_eq_some_iff.mp hq).1; rw [wH_len] at this; exact this
    rw [show k = 32 by omega] at hq
    cases hq
    exact hD.2.2.2.1 j hj e9.symm
/-- what the reference has thrown -/
theorem lw_thrown (S : CallFix p m c cc ls.size s args WG "PlaceMovesLaw") (hE : EH s.heap.size G cI cZ cJ s s.heap) {out : Int32} (hM : Met l yy ws rm (PcR G am cI cZ τ (.ref (am 0) :: As)) (vp_Si (fun r => r = out)) 0 0 (fun _ => False)) (cw : CallW R s args "PlaceMovesLaw" "PlaceMovesModel" index yy bytes maxL ret ws rm 0 0 n)
    (hP : va_P G clX (wL ad cI cZ cJ aO am σ y τ) H) (hn : As.length = n) (hrest : (rest.map fun v => v.category).sum ≤ 8) (hdg : decode cc pc = .ok (.invokevirtual index, 3)) (hf : cells ≤ R.cells ∧ slots ≤ R.slots)
    (kk : W p l e R s m args below meth c H locs cells slots Q (F0 m (pc + 3) ls (.int out :: rest))) : W p l e R s m args below meth c H locs cells slots Q (F0 m pc ls (As.reverse ++ .ref (am 0) :: rest)) :=
  vp_callSi (W.runV (As := As) (rest := rest) S hM cw ⟨PcR.blind, va_recv hE.1.1 (wL_m hP) (ci := 7) (q0 := 0) rfl rfl, fun U hU hZ => ⟨rfl, by rw [hU]; exact wL_m hP, hE.1.warm hZ⟩⟩ rfl hn rfl rfl (lv_room hrest) hdg hf) (fun r' e9 => by subst e9; exact kk)
end LB
theorem lg_same (x : Int64) : lg_cmp x x = 0 := by unfold lg_cmp; simp
theorem lw_ix {i j L : Nat} (h : i + j < L) (hL : L ≤ 3072) {x4 : Int32} (e : x4 = nI i) : vp_in (x4 + nI j) L ∧ (x4 + nI j).toNatClampNeg = i + j := by
  rw [e, nI_add]
  exact ⟨vp_in_nI h (by omega), nI_clamp (by omega)⟩
