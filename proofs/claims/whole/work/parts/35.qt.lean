/-! contracts of methods that throw -/
def rmE (f l k : Nat) : Room := { frames := f, cells := cE k, slots := 6 * cE k, locals := l }
def Thr (k : Nat) (H : Heap) (o : Outcome) (t : State) : Prop := ∃ (q : Addr) (ce : Cell), o = .threw q ∧ t.heap[q]? = some ce ∧ ce.vm = .none ∧ t.vm.findClass (exN k) = some ce.cls ∧ H.size ≤ q ∧ H.size ≤ t.heap.size ∧ ∀ i : Nat, i < H.size → t.heap[i]? = H[i]?
theorem Thr.shift {k : Nat} {H : Heap} {o : Outcome} {t u : State} (h : Thr k H o t) (hu : u.heap = t.heap) (hv : u.vm = t.vm) : Thr k H o u := by
  obtain ⟨q, ce, h1, h2, h3, h4, h5, h6, h7⟩ := h
  exact ⟨q, ce, h1, by rw [hu]; exact h2, h3, by rw [hv]; exact h4, h5, by rw [hu]; exact h6, fun i hi => by rw [hu]; exact h7 i hi⟩
def QTi (out : Nat × Int32) : Array Value → State → Outcome → State → Prop := fun _ st o t => (out.1 = 0 → o = .returned (some (.int out.2)) ∧ t.heap = st.heap) ∧ (out.1 ≠ 0 → Thr out.1 st.heap o t)
def QTv (out : Nat) : Array Value → State → Outcome → State → Prop := fun _ st o t => (out = 0 → o = .returned none ∧ t.heap = st.heap) ∧ (out ≠ 0 → Thr out st.heap o t)
def PcT (b0 : Nat) (G : va_G) (ad : Nat → Nat) (cI cZ : ClassId) (σ : Sg) (av : List Value) : Array Value → State → Prop := va_Pc av (fun U => va_P G clX (wX ad cI cZ σ) U.heap ∧ KX G cI cZ U ∧ TE b0 U U.heap)
theorem PcT.blind {b0 : Nat} {G : va_G} {ad : Nat → Nat} {cI cZ : ClassId} {σ : Sg} {av : List Value} : FrameBlind (PcT b0 G ad cI cZ σ av) := fun _ _ _ _ h => ⟨h.1, h.2.1, h.2.2.1.same rfl, h.2.2.2.same rfl⟩
theorem qt_i {out : Nat × Int32} {v : Int32} {a : Array Value} {s t : State} (h : some ((0 : Nat), v) = some out) (ht : t.heap = s.heap) : QTi out a s (.returned (some (.int v))) t := by
  cases h
  exact ⟨fun _ => ⟨rfl, ht⟩, fun z => absurd rfl z⟩
theorem qt_v {out : Nat} {a : Array Value} {s t : State} (h : some (0 : Nat) = some out) (ht : t.heap = s.heap) : QTv out a s (.returned none) t := by
  cases h
  exact ⟨fun _ => ⟨rfl, ht⟩, fun z => absurd rfl z⟩
theorem qt_xi {out : Nat × Int32} {k : Nat} {v : Int32} {a : Array Value} {s t : State} {o : Outcome} (h : some (k, v) = some out) (hk : k ≠ 0) (ht : Thr k s.heap o t) : QTi out a s o t := by
  cases h
  exact ⟨fun z => absurd z hk, fun _ => ht⟩
theorem qt_xv {out k : Nat} {a : Array Value} {s t : State} {o : Outcome} (h : some k = some out) (hk : k ≠ 0) (ht : Thr k s.heap o t) : QTv out a s o t := by
  cases h
  exact ⟨fun z => absurd z hk, fun _ => ht⟩
theorem cE_one {k : Nat} (hk : k ≠ 0) : cE k = 1 := if_neg hk
theorem cE_i {out : Nat × Int32} {k : Nat} {v : Int32} (h : some (k, v) = some out) : 0 + cE k ≤ cE out.1 ∧ 0 + 6 * cE k ≤ 6 * cE out.1 := by
  cases h
  dsimp only
  exact ⟨by omega, by omega⟩
theorem cE_v {out k : Nat} (h : some k = some out) : 0 + cE k ≤ cE out ∧ 0 + 6 * cE k ≤ 6 * cE out := by
  cases h
  exact ⟨by omega, by omega⟩
theorem cE_i1 {out : Nat × Int32} {k : Nat} {v : Int32} (h : some (k, v) = some out) (hk : k ≠ 0) : 0 + 1 ≤ cE out.1 ∧ 0 + 6 ≤ 6 * cE out.1 := by
  cases h
  rw [cE_one hk]
  exact ⟨by omega, by omega⟩
theorem cE_v1 {out k : Nat} (h : some k = some out) (hk : k ≠ 0) : 0 + 1 ≤ cE out ∧ 0 + 6 ≤ 6 * cE out := by
  cases h
  rw [cE_one hk]
  exact ⟨by omega, by omega⟩
section TXD
variable {p : Program} {l : Launch} {e : Env} {R : Room} {s : State} {m : MethodId} {args : Array Value} {below : List Frame} {meth : Method} {c : Code} {H : Heap} {locs : List Loc} {cells slots : Nat} {Q : State → Prop}
variable {Qc : Array Value → State → Outcome → State → Prop} {free : Addr → Prop} {g : JFrame}
theorem tx_leafi {out : Nat × Int32} {v : Int32} (h : some ((0 : Nat), v) = some out) (k : W p l e R s m args below meth c H locs 0 0 (MQ below Qc args s 0 0 free) g) : W p l e R s m args below meth c H locs 0 0 (tx_MQ below Qc args s (cE out.1) (6 * cE out.1) free) g := by
  cases h
  exact tx_ret k
theorem tx_leafv {out : Nat} (h : some (0 : Nat) = some out) (k : W p l e R s m args below meth c H locs 0 0 (MQ below Qc args s 0 0 free) g) : W p l e R s m args below meth c H locs 0 0 (tx_MQ below Qc args s (cE out) (6 * cE out) free) g := by
  cases h
  exact tx_ret k
theorem tx_lni {out : Nat × Int32} {k : Nat} {v : Int32} (h : some (k, v) = some out) (hk : k ≠ 0) (kk : W p l e R s m args below meth c H locs 0 0 (tx_MQ below Qc args s (0 + 1) (0 + 6) free) g) : W p l e R s m args below meth c H locs 0 0 (tx_MQ below Qc args s (cE out.1) (6 * cE out.1) free) g := by
  cases h
  rw [cE_one hk]
  exact kk
theorem tx_lnv {out k : Nat} (h : some k = some out) (hk : k ≠ 0) (kk : W p l e R s m args below meth c H locs 0 0 (tx_MQ below Qc args s (0 + 1) (0 + 6) free) g) : W p l e R s m args below meth c H locs 0 0 (tx_MQ below Qc args s (cE out) (6 * cE out) free) g := by
  cases h
  rw [cE_one hk]
  exact kk
theorem tx_lpi {out : Nat × Int32} {k : Nat} {v : Int32} (h : some (k, v) = some out) (kk : W p l e R s m args below meth c H locs 0 0 (tx_MQ below Qc args s (0 + cE k) (0 + 6 * cE k) free) g) : W p l e R s m args below meth c H locs 0 0 (tx_MQ below Qc args s (cE out.1) (6 * cE out.1) free) g := by
  cases h
  rw [Nat.zero_add, Nat.zero_add] at kk
  exact kk
theorem tx_lpv {out k : Nat} (h : some k = some out) (kk : W p l e R s m args below meth c H locs 0 0 (tx_MQ below Qc args s (0 + cE k) (0 + 6 * cE k) free) g) : W p l e R s m args below meth c H locs 0 0 (tx_MQ below Qc args s (cE out) (6 * cE out) free) g := by
  cases h
  rw [Nat.zero_add, Nat.zero_add] at kk
  exact kk
/-- a call that returned and left the heap -/
theorem tx_call0 {pc : Nat} {ls : Array Slot} {rest st0 : List Value} {Qa : State → Outcome → State → Prop} {v0 : Option Value} (hr : CallRun p l e R s m args below meth c H locs cells slots 0 0 (F0 m pc ls st0) rest Qa (fun _ => False))
    (hq : ∀ st o t, Qa st o t → o = .returned v0 ∧ t.heap = st.heap) (kk : W p l e R s m args below meth c H locs cells slots Q (F0 m (pc + 3) ls (v0.toList ++ rest))) : W p l e R s m args below meth c H locs cells slots Q (F0 m pc ls st0) := by
  intro T hT X
  obtain ⟨v, st₀, t, T', L, h0, X', hL, e1, hqa, st⟩ := hr T hT X
  obtain ⟨hv, hh⟩ := hq _ _ _ hqa
  cases hv
  obtain ⟨t2, a1, b1⟩ := kk T' (by rw [e1, hh, h0]) (Stand.forget X' (fun q h => (hL q h).elim))
  exact ⟨t2, st t2 a1, b1⟩
end TXD
