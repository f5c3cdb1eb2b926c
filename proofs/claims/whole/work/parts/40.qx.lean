/-! contracts of methods that write and throw -/
def ThrX (k n : Nat) (o : Outcome) (t : State) : Prop := ∃ (q : Addr) (ce : Cell), o = .threw q ∧ t.heap[q]? = some ce ∧ ce.vm = .none ∧ t.vm.findClass (exN k) = some ce.cls ∧ n ≤ q
def QXi (G : va_G) (ad : Nat → Nat) (cI cZ : ClassId) (out : Nat × Int32 × Sg) : Array Value → State → Outcome → State → Prop := fun _ st o t =>
  va_P G clX (wX ad cI cZ out.2.2) t.heap ∧ va_F (AX ad) st t ∧ (out.1 = 0 → o = .returned (some (.int out.2.1))) ∧ (out.1 ≠ 0 → ThrX out.1 st.heap.size o t)
def QXv (G : va_G) (ad : Nat → Nat) (cI cZ : ClassId) (out : Nat × Sg) : Array Value → State → Outcome → State → Prop := fun _ st o t =>
  va_P G clX (wX ad cI cZ out.2) t.heap ∧ va_F (AX ad) st t ∧ (out.1 = 0 → o = .returned none) ∧ (out.1 ≠ 0 → ThrX out.1 st.heap.size o t)
section QXS
variable {G : va_G} {ad : Nat → Nat} {cI cZ : ClassId} {b0 : Nat} {σ : Sg} {s t : State} {H : Heap} {locs : List Loc} {a : Array Value} {k : Nat} {o : Outcome}
theorem TE.ofS (h : TE b0 s s.heap) (hb0 : ∀ k, k < 32 → b0 ≤ ad k) (hW : WS G ad cI cZ s σ H locs) : TE b0 s H :=
  h.kept fun a ha hl => hW.2.2.1 a hl (fun ⟨k, hk, e⟩ => by have := hb0 k hk; omega)
theorem qx_w (hW : WS G ad cI cZ s σ H locs) (h : Thr k H o t) : va_P G clX (wX ad cI cZ σ) t.heap ∧ va_F (AX ad) s t ∧ ThrX k s.heap.size o t := by
  obtain ⟨q, ce, h1, h2, h3, h4, h5, h6, h7⟩ := h
  refine ⟨hW.1.kept (fun j z hz => h7 _ (hW.1 j z hz).lt), ⟨Nat.le_trans hW.2.1 h6, fun z hz hn => ?_⟩, q, ce, h1, h2, h3, h4, Nat.le_trans hW.2.1 h5⟩
  rw [h7 z (Nat.lt_of_lt_of_le hz hW.2.1)]
  exact hW.2.2.1 z hz hn
theorem qx_i {out : Nat × Int32 × Sg} {v : Int32} (h : some ((0 : Nat), v, σ) = some out) (ht : t.heap = H) (hW : WS G ad cI cZ s σ H locs) : QXi G ad cI cZ out a s (.returned (some (.int v))) t := by
  cases h
  exact ⟨by show va_P _ _ _ t.heap; rw [ht]; exact hW.1, hW.2.F ht, fun _ => rfl, fun z => absurd rfl z⟩
theorem qx_v {out : Nat × Sg} (h : some ((0 : Nat), σ) = some out) (ht : t.heap = H) (hW : WS G ad cI cZ s σ H locs) : QXv G ad cI cZ out a s (.returned none) t := by
  cases h
  exact ⟨by show va_P _ _ _ t.heap; rw [ht]; exact hW.1, hW.2.F ht, fun _ => rfl, fun z => absurd rfl z⟩
theorem qx_xi {out : Nat × Int32 × Sg} {v : Int32} (h : some (k, v, σ) = some out) (hk : k ≠ 0) (hW : WS G ad cI cZ s σ H locs) (ht : Thr k H o t) : QXi G ad cI cZ out a s o t := by
  cases h
  obtain ⟨h1, h2, h3⟩ := qx_w hW ht
  exact ⟨h1, h2, fun z => absurd z hk, fun _ => h3⟩
theorem qx_xv {out : Nat × Sg} (h : some (k, σ) = some out) (hk : k ≠ 0) (hW : WS G ad cI cZ s σ H locs) (ht : Thr k H o t) : QXv G ad cI cZ out a s o t := by
  cases h
  obtain ⟨h1, h2, h3⟩ := qx_w hW ht
  exact ⟨h1, h2, fun z => absurd z hk, fun _ => h3⟩
end QXS
theorem some_fst {α : Type} {k : Nat} {x : α} {out : Nat × α} (h : some (k, x) = some out) : k = out.1 := by
  cases h
  rfl
theorem cE_x {k j : Nat} (h : k = j) : 0 + cE k ≤ cE j ∧ 0 + 6 * cE k ≤ 6 * cE j := by
  subst h
  exact ⟨by omega, by omega⟩
theorem cE_x1 {k j : Nat} (h : k = j) (hk : k ≠ 0) : 0 + 1 ≤ cE j ∧ 0 + 6 ≤ 6 * cE j := by
  subst h
  rw [cE_one hk]
  exact ⟨by omega, by omega⟩
section TXE
variable {p : Program} {l : Launch} {e : Env} {R : Room} {s : State} {m : MethodId} {args : Array Value} {below : List Frame} {meth : Method} {c : Code} {H : Heap} {locs : List Loc} {cells slots : Nat} {Q : State → Prop}
variable {Qc : Array Value → State → Outcome → State → Prop} {free : Addr → Prop} {g : JFrame}
theorem tx_leafx {j : Nat} (h : 0 = j) (k : W p l e R s m args below meth c H locs 0 0 (MQ below Qc args s 0 0 free) g) : W p l e R s m args below meth c H locs 0 0 (tx_MQ below Qc args s (cE j) (6 * cE j) free) g := by
  subst h
  exact tx_ret k
theorem tx_lnx {j k : Nat} (h : k = j) (hk : k ≠ 0) (kk : W p l e R s m args below meth c H locs 0 0 (tx_MQ below Qc args s (0 + 1) (0 + 6) free) g) : W p l e R s m args below meth c H locs 0 0 (tx_MQ below Qc args s (cE j) (6 * cE j) free) g := by
  subst h
  rw [cE_one hk]
  exact kk
theorem tx_lpx {j k : Nat} (h : k = j) (kk : W p l e R s m args below meth c H locs 0 0 (tx_MQ below Qc args s (0 + cE k) (0 + 6 * cE k) free) g) : W p l e R s m args below meth c H locs 0 0 (tx_MQ below Qc args s (cE j) (6 * cE j) free) g := by
  subst h
  rw [Nat.zero_add, Nat.zero_add] at kk
  exact kk
end TXE
