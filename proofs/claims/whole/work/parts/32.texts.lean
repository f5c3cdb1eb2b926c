/-! what a throw asks of the heap: two statics of Throwable, below the law's own cells -/
def exN (k : Nat) : String := if k = 1 then "java/util/NoSuchElementException" else if k = 2 then "java/lang/IllegalArgumentException" else "java/lang/IllegalStateException"
def cE (k : Nat) : Nat := if k = 0 then 0 else 1
def TL (b0 : Nat) (n d : String) (U : State) (H : Heap) : Prop := ∃ (c : ClassId) (k : Class) (i : Nat) (f : Field) (a : Nat) (cell : Cell) (v : Value), U.vm.findClass Bundle.tN = some c ∧ U.fieldFound? Bundle.tN n d = some (c, k, i, f) ∧ f.isStatic = true ∧ k.statics = some a ∧ k.staticTypes[f.slot]? = some f.type ∧ a < b0 ∧ H[a]? = some cell ∧ cell.vm.isStatics = true ∧ cell.cls = c ∧ f.slot < cell.slots.size ∧ cell.slots[f.slot]? = some v ∧ v.isRef = true
theorem TL.move {b0 : Nat} {n d : String} {u U : State} {H H1 : Heap} (h : TL b0 n d u H) (hvm : u.vm.Alike U.vm) (hq : ∀ a : Nat, a < b0 → a < H.size → H1[a]? = H[a]?) : TL b0 n d U H1 := by
  obtain ⟨c, k, i, f, a, cell, v, h1, h2, h3, h4, h5, h6, h7, h8⟩ := h
  obtain ⟨k', hi', he⟩ := State.fieldFound?_setVm hvm h2
  exact ⟨c, k', i, f, a, cell, v, by rw [hvm.findClass]; exact h1, hi', h3, by rw [he]; exact h4, by rw [he]; exact h5, h6, by rw [hq a h6 (Array.getElem?_eq_some_iff.mp h7).1]; exact h7, h8⟩
theorem TL.lays {b0 : Nat} {n d : String} {U : State} {args : Array Value} (h : TL b0 n d U U.heap) : (Cond.laysStatic Bundle.tN n d).before args U = true := by
  obtain ⟨c, k, i, f, a, cell, v, h1, h2, h3, h4, h5, h6, h7, h8, h9, h10, h11⟩ := h
  simp [Cond.before, Cond.holds, Cond.value, h1, h2, h3, h4, h5, h7, h8, h9, h10]
theorem TL.isRef {b0 : Nat} {n d : String} {U : State} {args : Array Value} (h : TL b0 n d U U.heap) : (Cond.isRef (.static Bundle.tN n d)).before args U = true := by
  obtain ⟨c, k, i, f, a, cell, v, h1, h2, h3, h4, h5, h6, h7, h8, h9, h10, h11, h12⟩ := h
  have hev : (Term.static Bundle.tN n d).eval args U none [] U = some v := by
    simp [Term.eval, State.fieldNamed?, h2, h3, h4, h7, h8, h11]
  cases v <;> simp [Value.isRef] at h12 <;> simp [Cond.before, Cond.holds, Cond.value, hev]
theorem TL.of {b0 : Nat} {n d : String} {s : State} {args : Array Value} (hl : (Cond.laysStatic Bundle.tN n d).before args s = true) (hr : (Cond.isRef (.static Bundle.tN n d)).before args s = true) (hb : s.heap.size ≤ b0) : TL b0 n d s s.heap := by
  obtain ⟨c, k, i, f, a, cell, h1, h2, h3, h4, h5, h6, h7, h8, h9⟩ := Cond.laysStatic_spec hl
  obtain ⟨v, hv, hvr⟩ := Cond.isRef_spec hr
  obtain ⟨-, a', cell', g1, g2, -, g4⟩ := Term.static_spec h2 hv
  cases h4.symm.trans g1
  cases h5.symm.trans g2
  exact ⟨c, k, i, f, a, cell, v, h1, h2, h3, h4, h9, Nat.lt_of_lt_of_le (Array.getElem?_eq_some_iff.mp h5).1 hb, h5, h6, h7, h8, g4, hvr⟩
