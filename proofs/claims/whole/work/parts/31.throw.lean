section TXB
variable {p : Program} {l : Launch} {e : Env} {R : Room} {s : State} {m : MethodId} {args : Array Value} {below : List Frame} {meth : Method} {c : Code} {H : Heap} {locs : List Loc} {cells slots : Nat} {Q : State → Prop}
variable {y : MethodName} {ws ws' : List Cond} {rm : Room} {Pc : Array Value → State → Prop} {Qc Qd : Array Value → State → Outcome → State → Prop} {mc ms n : Nat} {free free' : Addr → Prop} {cc bytes : ByteArray} {maxL nL index : Nat} {ret : Option FieldType} {Ts : List Cond} {own C : String} {b : Addr} {As rest : List Value} {g : JFrame}
/-- a virtual call whose callee throws, in a method that catches nothing there -/
theorem tx_Vout (S : CallFix p m c cc nL s args Ts own) (hM : tx_Met l y ws rm Pc Qc mc ms free) (cw : CallW R s args own C index y bytes maxL ret ws rm mc ms n) (hp : PreV s H C b Pc As) (hq : ∀ a st o t, Qc a st o t → ∃ q, o = .threw q)
    (hg : g.method = m) (hn : As.length = n) (hsize : g.locals.size = nL) (hstack : g.stack = As.reverse ++ .ref b :: rest) (hlk : g.locked = none) (hent : g.entered = []) (hW : 2 * g.monitorRoom + (rest.map fun v => v.category).sum ≤ 8) (hdg : decode cc g.pc = .ok (.invokevirtual index, 3)) (hf : cells + mc ≤ R.cells ∧ slots + ms ≤ R.slots)
    (hout : ∀ x ∈ c.exceptionTable.toList, covers x g.pc = false) (hlocks : meth.locks = false)
    (kq : ∀ (q : Addr) (st t u : State), st.heap = H → Qc (Value.ref b :: As).toArray st (.threw q) t → u.heap = t.heap → u.vm = t.vm → Qd args s (.threw q) u) (hf1 : ∀ z ∈ locs, free' z.base) (hf2 : ∀ z, free z → free' z) :
    W p l e R s m args below meth c H locs cells slots (tx_MQ below Qd args s (cells + mc) (slots + ms) free') g := by
  intro T hT X
  obtain ⟨⟨hrc, hrs, hfr, hlo, hws, hcw, hcode, hini, hy, hlen, hl⟩, hin, hse⟩ := cw
  obtain ⟨hx, hb, hml, ho, -⟩ := S
  obtain ⟨hbl, ⟨cellB, hcB, hoB, hclB⟩, hPc⟩ := hp
  subst hb
  obtain ⟨mk, methM, hnamed, hmethM, hstM, habM⟩ := Cond.instanceMethod_spec hin
  obtain ⟨methM', cM, hmethM', -, -, -, -, -, -, hsigM⟩ := Cond.code_spec hnamed hcode
  cases hmethM.symm.trans hmethM'
  obtain ⟨c2, r2, m2, q1, q2, q3, q4, kP, hkP, hkPi⟩ := Cond.selects_spec hse
  cases hclB.symm.trans q1
  cases (State.methodFound?_of_named hnamed hy).symm.trans q2
  cases hnamed.symm.trans q3
  have hselP : selectMethod e.platform s.vm cellB.cls mk = .method mk := by rw [Launch.admits_selectMethod X.admits]; exact q4
  obtain ⟨vm₁, X₁, hstep₁⟩ := X.invokevirtual hx ho hl hnamed hmethM hstM hkP hkPi hy (a := b) (cell := cellB) (by rw [hT]; exact hcB)
    (fun z h => by rw [h] at hoB; cases hoB) hselP hmethM habM hkP hkPi (g := g) hg (argsL := As) (rest := rest) (hn.trans (hlen _ hsigM)) hstack hdg
  obtain ⟨q, t, T', L, X', e1, e2, hL, hQ, st⟩ := tx_thr X₁ hM hbl hrc hrs hfr hlo hws hcw hini hq (g := { g with stack := rest }) hg (hsize.trans hml.symm) hdg hW (X₁.named hnamed) hf.1 hf.2 (hPc (T.setVm vm₁) hT X₁.warmed)
  obtain ⟨t2, s1, z1⟩ := tx_leave (Qc := Qd) (free := free') X' (q := q) (g := { g with stack := rest }) hg hlk hent hout hlocks (fun u hu hv => by refine kq q _ t u ?_ hQ (hu.trans e1) (hv.trans e2); exact hT) (fun z hz => (List.mem_append.mp hz).elim (hf1 z) (fun h => hf2 _ (hL z h)))
  exact ⟨t2, hstep₁ _ fun acts => by rw [doInvoke_state]; exact st.trans s1, z1⟩
/-- a static call whose callee throws -/
theorem tx_Sout (S : CallFix p m c cc nL s args Ts own) (hM : tx_Met l y ws rm Pc Qc mc ms free) (cw : CallB R s args own index y bytes maxL ret ws rm mc ms n ∧ (Cond.static y).before args s = true) (hp : PreS s H Pc As) (hq : ∀ a st o t, Qc a st o t → ∃ q, o = .threw q)
    (hg : g.method = m) (hn : As.length = n) (hsize : g.locals.size = nL) (hstack : g.stack = As.reverse ++ rest) (hlk : g.locked = none) (hent : g.entered = []) (hW : 2 * g.monitorRoom + (rest.map fun v => v.category).sum ≤ 8) (hdg : decode cc g.pc = .ok (.invokestatic index, 3)) (hf : cells + mc ≤ R.cells ∧ slots + ms ≤ R.slots)
    (hout : ∀ x ∈ c.exceptionTable.toList, covers x g.pc = false) (hlocks : meth.locks = false)
    (kq : ∀ (q : Addr) (st t u : State), st.heap = H → Qc As.toArray st (.threw q) t → u.heap = t.heap → u.vm = t.vm → Qd args s (.threw q) u) (hf1 : ∀ z ∈ locs, free' z.base) (hf2 : ∀ z, free z → free' z) :
    W p l e R s m args below meth c H locs cells slots (tx_MQ below Qd args s (cells + mc) (slots + ms) free') g := by
  intro T hT X
  obtain ⟨⟨hrc, hrs, hfr, hlo, hws, hcw, hcode, hini, hy, hlen, hl⟩, hstt⟩ := cw
  obtain ⟨hx, hb, hml, ho, -⟩ := S
  obtain ⟨hbl, hPc⟩ := hp
  subst hb
  obtain ⟨mk, hnamed⟩ := Cond.code_named hcode
  obtain ⟨methM, cM, hmethM, -, -, -, -, -, -, hsigM⟩ := Cond.code_spec hnamed hcode
  have hstatic : methM.isStatic = true := Cond.static_spec hnamed hmethM hstt
  obtain ⟨kP, hkP, -⟩ := className_of_methodNamed hnamed
  have hinitP : kP.init = .initialized := Cond.initialized_spec (findClass_of_methodNamed hnamed) hkP hini
  obtain ⟨vm₁, X₁, hstep₁⟩ := X.invokestatic hx ho hl hnamed hmethM hstatic hkP hinitP hy (g := g) hg (argsL := As) (rest := rest) (hn.trans (hlen _ hsigM)) hstack hdg
  obtain ⟨q, t, T', L, X', e1, e2, hL, hQ, st⟩ := tx_thr X₁ hM hbl hrc hrs hfr hlo hws hcw hini hq (g := { g with stack := rest }) hg (hsize.trans hml.symm) hdg hW (X₁.named hnamed) hf.1 hf.2 (hPc (T.setVm vm₁) hT X₁.warmed)
  obtain ⟨t2, s1, z1⟩ := tx_leave (Qc := Qd) (free := free') X' (q := q) (g := { g with stack := rest }) hg hlk hent hout hlocks (fun u hu hv => by refine kq q _ t u ?_ hQ (hu.trans e1) (hv.trans e2); exact hT) (fun z hz => (List.mem_append.mp hz).elim (hf1 z) (fun h => hf2 _ (hL z h)))
  exact ⟨t2, hstep₁ _ fun acts => by rw [doInvoke_state]; exact st.trans s1, z1⟩
theorem tx_same {U : State} {k z : Nat} (h : s.sameButNew ({ U with vm := s.vm } : State) [] k z) : s.heap.size ≤ U.heap.size ∧ ∀ q : Nat, q < s.heap.size → U.heap[q]? = s.heap[q]? := by
  obtain ⟨-, h2, -, -, -, h6⟩ := h
  refine ⟨h2, fun q hq => ?_⟩
  obtain ⟨d, e1, e2, -, e4⟩ := h6 q _ (Array.getElem?_eq_getElem hq)
  have e5 : U.heap[q]? = some d := e1
  have hs : d.slots = (s.heap[q]).slots := Array.ext_getElem? fun i => e4 i (fun hm => nomatch hm)
  rw [hs] at e2
  rw [e5, Array.getElem?_eq_getElem hq, e2]
/-- throw new E("a text") where nothing has been written yet and nothing is caught: new, dup, ldc, invokespecial, athrow -/
theorem tx_new {pc ik is ic : Nat} {ls : Array Slot} (hx : p.tables.exec = Jvm.exec) (hb : c.code = cc) (hfl : l.flags = pinnedFlags ++ [noTraceFlag]) {cls Y text : String} {r : List String} {ix : Nat} {rx : ByteArray} (hown : s.vm.findClass own = some m.cls)
    (hclk : (Cond.classLink own ik cls).before args s = true) (hini : (Cond.initialized cls).before args s = true) (hat : ∀ a ∈ tx_atoms own ic cls Y ix rx r, a.before args s = true) (hcls : Bundle.fit cls = true) (hY : Bundle.fit Y = true) (hnames : ∀ z ∈ r, Bundle.fit z = true) (r0 : decode rx 0 = .ok (.aload_n 0, 1)) (r1 : decode rx 1 = .ok (.aload_n 1, 1)) (r2 : decode rx 2 = .ok (.invokespecial ix, 3)) (r5 : decode rx 5 = .ok (.return_, 1)) (hconst : (Cond.stringRef own is text).before args s = true)
    (hml : c.maxLocals = ls.size)
    (d0 : decode cc pc = .ok (.new ik, 3)) (d3 : decode cc (pc + 3) = .ok (.dup, 1)) (d4 : decode cc (pc + 4) = .ok (.ldc is, 2)) (d6 : decode cc (pc + 6) = .ok (.invokespecial ic, 3)) (d9 : decode cc (pc + 9) = .ok (.athrow, 1))
    (hout : ∀ x ∈ c.exceptionTable.toList, covers x (pc + 9) = false) (hlocks : meth.locks = false) (hcells : cells + 1 ≤ R.cells) (hslots : slots + 6 ≤ R.slots) (hRf : r.length + 4 < R.frames) (hRl : (rest.map fun v => v.category).sum + (13 * (r.length + 2) + 43) ≤ R.locals)
    (kq : ∀ (t : State) (ce : Cell), t.heap[s.heap.size]? = some ce → ce.vm = .none → s.vm.findClass cls = some ce.cls → s.vm.Alike t.vm → s.heap.size ≤ t.heap.size → (∀ i : Nat, i < s.heap.size → t.heap[i]? = s.heap[i]?) → Qc args s (.threw s.heap.size) t) :
    W p l e R s m args below meth c s.heap [] cells slots (tx_MQ below Qc args s (cells + 1) (slots + 6) free) (F0 m pc ls rest) := by
  intro T hT X
  subst hb
  have htr : e.platform.stackTraces = false := Launch.traces_off hfl X.admits
  obtain ⟨vm₁, cX, kX, hfX, hkX, -, -, X₁, st1⟩ := X.newCold hx (own := own) (C := cls) (index := ik) (n := 6) hown hclk (hat (.instantiable cls 6) (by simp [tx_atoms])) hini (g := F0 m pc ls rest) rfl d0 hcells hslots
  generalize hT1 : (T.setVm vm₁).pushCell { cls := cX, slots := kX.instanceTypes.map defaultValue, vm := .none } = T1 at X₁ st1
  have hcellA : T1.heap[T.heap.size]? = some (freshCell cX kX) := by rw [← hT1]; exact State.heap_pushCell_size _ _
  obtain ⟨-, -, -, sa, -, -, -, -, -, hev⟩ := Cond.stringRef_spec hown hconst
  obtain ⟨U, hsteps, hrun, hend, hW, hsame, ce, hce, Kv, Kc⟩ := tx_ctor X₁ hx htr (own := own) (cls := cls) (ic := ic) hown hcls hY hnames r0 r1 r2 r5 hat (fun x hx => nomatch hx) hfX hkX hcellA (by rw [hT]; exact Nat.le_refl _) (msg := .ref sa) rfl
    (g := F0 m (pc + 6) ls (.ref sa :: .ref T.heap.size :: .ref T.heap.size :: rest)) rfl hml.symm rfl rfl (rest := rest) rfl d6 d9 hout hRf (by
      show 2 * 0 + (1 + (rest.map fun v => v.category).sum) + (13 * (r.length + 2) + 42) ≤ R.locals
      omega) hlocks
  have hz : T.heap.size = s.heap.size := by rw [hT]
  rw [hz] at hend hce
  obtain ⟨f1, f2⟩ := tx_same hsame
  refine ⟨U, ?_, .threw s.heap.size, hrun, hend, kq U ce hce Kv Kc hW.alike f1 f2, [], ⟨hW, hsame⟩, fun z h => nomatch h⟩
  refine st1 _ ?_
  show Steps p.tables e below (T1.setTop (F0 m (pc + 3) ls (.ref T.heap.size :: rest))) _
  jvm_step X₁.here [X₁.here.top, hx, d3, Value.category]
  exact X₁.ldcString hx (own := own) (text := text) (index := is) (a := sa) hown hconst hev (g := F0 m (pc + 4) ls (.ref T.heap.size :: .ref T.heap.size :: rest)) rfl d4 _ hsteps
end TXB
