def DCl : List MethodName := [⟨"java/lang/RuntimeException", "<init>", "()V"⟩, ⟨"java/lang/RuntimeException", "<init>", "(Ljava/lang/String;)V"⟩, ⟨"java/lang/Exception", "<init>", "()V"⟩, ⟨"java/lang/Exception", "<init>", "(Ljava/lang/String;)V"⟩, ⟨"java/lang/Throwable", "<init>", "()V"⟩, ⟨"java/lang/Throwable", "<init>", "(Ljava/lang/String;)V"⟩]
def CSl : List (String × String) := [("java/util/NoSuchElementException", "java/util/NoSuchElementException"), ("java/lang/IllegalArgumentException", "java/lang/IllegalArgumentException"), ("java/lang/IllegalStateException", "java/lang/IllegalStateException")]
def SRl : List (String × Nat × String) := [("PlaceMoves", 193, "there is none of this number"), ("PlaceMoves", 196, "a value is out of its range"), ("PlaceMoves", 200, "there are as many as there may be"), ("PlaceMoves", 203, "a key is missing"), ("PlaceMoves", 146, "a door joins two places"), ("PlaceMoves", 181, "a quiet time begins at 0 or later and ends no sooner than that"), ("PlaceMoves", 189, "nothing of this number is counted")]
def SRw (q : String × Nat × String) (U : State) : Prop := ∃ a : Nat, vk_R q.1 q.2.1 q.2.2 a U
/-- what a throw asks, as it is handed to every callee that may throw -/
def TE (b0 : Nat) (U : State) (H : Heap) : Prop := TL b0 "UNASSIGNED_STACK" Bundle.steD U H ∧ TL b0 "SUPPRESSED_SENTINEL" Bundle.listD U H ∧ (∀ q ∈ DCl, va_Nw (.declares q) U) ∧ (∀ q ∈ CSl, va_Nw (.castable q.1 q.2) U) ∧ ∀ q ∈ SRl, SRw q U
theorem TE.warm {b0 : Nat} {s U : State} {H : Heap} (h : TE b0 s H) (hW : s.WarmedH U.vm) : TE b0 U H :=
  ⟨h.1.move hW.alike (fun _ _ _ => rfl), h.2.1.move hW.alike (fun _ _ _ => rfl), fun q hq => va_Nw.warmD hW (h.2.2.1 q hq), fun q hq => va_Nw.warmC hW (h.2.2.2.1 q hq), fun q hq => (h.2.2.2.2 q hq).imp fun _ z => vk_R.warm hW z⟩
theorem TE.kept {b0 : Nat} {s : State} {H H1 : Heap} (h : TE b0 s H) (hq : ∀ a : Nat, a < b0 → a < H.size → H1[a]? = H[a]?) : TE b0 s H1 :=
  ⟨h.1.move (Vm.Alike.refl _) hq, h.2.1.move (Vm.Alike.refl _) hq, h.2.2⟩
theorem TE.same {b0 : Nat} {u U : State} {H : Heap} (h : TE b0 u H) (e : u.vm = U.vm) : TE b0 U H :=
  ⟨h.1.move (by rw [e]; exact Vm.Alike.refl _) (fun _ _ _ => rfl), h.2.1.move (by rw [e]; exact Vm.Alike.refl _) (fun _ _ _ => rfl), fun q hq => va_Nw.same rfl e (h.2.2.1 q hq), fun q hq => va_Nw.same rfl e (h.2.2.2.1 q hq), fun q hq => (h.2.2.2.2 q hq).imp fun _ z => vk_R.same e.symm z⟩
def SPl : List Cond := DCl.map Cond.declares ++ CSl.map (fun q => Cond.castable q.1 q.2) ++ [.laysStatic Bundle.tN "UNASSIGNED_STACK" Bundle.steD, .laysStatic Bundle.tN "SUPPRESSED_SENTINEL" Bundle.listD, .isRef (.static Bundle.tN "UNASSIGNED_STACK" Bundle.steD), .isRef (.static Bundle.tN "SUPPRESSED_SENTINEL" Bundle.listD)]
theorem TE.sp {b0 : Nat} {s : State} {args : Array Value} (h : TE b0 s s.heap) : ∀ w ∈ SPl, w.before args s = true := by
  intro w hw
  unfold SPl at hw
  rcases List.mem_append.mp hw with hw | hw
  · rcases List.mem_append.mp hw with hw | hw
    · obtain ⟨q, hq, rfl⟩ := List.mem_map.mp hw
      exact va_Nw.use rfl (h.2.2.1 q hq)
    · obtain ⟨q, hq, rfl⟩ := List.mem_map.mp hw
      exact va_Nw.use rfl (h.2.2.2.1 q hq)
  · simp only [List.mem_cons, List.not_mem_nil, or_false] at hw
    rcases hw with rfl | rfl | rfl | rfl
    · exact h.1.lays
    · exact h.2.1.lays
    · exact h.1.isRef
    · exact h.2.1.isRef
theorem at_all {L : List Cond} {args : Array Value} {s : State} (h : L.all (fun a => (decide (a ∈ lw_tbl) && goodWord a) || decide (a ∈ SPl)) = true) (hts : ∀ w ∈ WG, w.before args s = true) (hsp : ∀ w ∈ SPl, w.before args s = true) : ∀ a ∈ L, a.before args s = true := by
  intro a ha
  have h1 := List.all_eq_true.mp h a ha
  simp only [Bool.or_eq_true, Bool.and_eq_true, decide_eq_true_eq] at h1
  rcases h1 with ⟨h2, h3⟩ | h2
  · exact hts a (List.mem_filter.mpr ⟨h2, h3⟩)
  · exact hsp a h2
