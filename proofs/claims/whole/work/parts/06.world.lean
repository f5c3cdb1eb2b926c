/-! the class's world: seven objects and 25 arrays; what a cell k holds is σ k -/
def wX (ad : Nat → Nat) (cI cZ : ClassId) (σ : Sg) : va_W := [(ad 0, .inr (0, [.ref (ad 1), .ref (ad 2), .ref (ad 3), .ref (ad 4), .ref (ad 5), .ref (ad 6), .ref (ad 7), .ref (ad 8), .int (σ 0 0)])),
  (ad 1, .inr (1, [.ref (ad 9), .ref (ad 10), .int (σ 1 0)])),
  (ad 2, .inr (2, [.ref (ad 11), .ref (ad 12), .ref (ad 13), .ref (ad 14), .ref (ad 15), .ref (ad 16), .int (σ 2 0)])),
  (ad 3, .inr (3, [.ref (ad 17), .ref (ad 18), .ref (ad 19), .ref (ad 20), .int (σ 3 0)])),
  (ad 4, .inr (4, [.ref (ad 21), .ref (ad 22), .ref (ad 23), .ref (ad 24), .int (σ 4 0)])),
  (ad 5, .inr (5, [.ref (ad 25), .ref (ad 26), .ref (ad 27), .ref (ad 28), .int (σ 5 0)])),
  (ad 6, .inr (6, [.ref (ad 29), .ref (ad 30), .ref (ad 31), .int (σ 6 0)])),
  (ad 7, .inl (cZ, 10, .inl (σ 7))),
  (ad 8, .inl (cI, 20, .inl (σ 8))),
  (ad 9, .inl (cI, 24, .inl (σ 9))),
  (ad 10, .inl (cI, 24, .inl (σ 10))),
  (ad 11, .inl (cI, 20, .inl (σ 11))),
  (ad 12, .inl (cI, 20, .inl (σ 12))),
  (ad 13, .inl (cI, 20, .inl (σ 13))),
  (ad 14, .inl (cI, 20, .inl (σ 14))),
  (ad 15, .inl (cI, 20, .inl (σ 15))),
  (ad 16, .inl (cZ, 20, .inl (σ 16))),
  (ad 17, .inl (cI, 20, .inl (σ 17))),
  (ad 18, .inl (cI, 800, .inl (σ 18))),
  (ad 19, .inl (cI, 800, .inl (σ 19))),
  (ad 20, .inl (cI, 800, .inl (σ 20))),
  (ad 21, .inl (cI, 40, .inl (σ 21))),
  (ad 22, .inl (cI, 40, .inl (σ 22))),
  (ad 23, .inl (cI, 40, .inl (σ 23))),
  (ad 24, .inl (cI, 40, .inl (σ 24))),
  (ad 25, .inl (cI, 30, .inl (σ 25))),
  (ad 26, .inl (cI, 30, .inl (σ 26))),
  (ad 27, .inl (cI, 30, .inl (σ 27))),
  (ad 28, .inl (cI, 30, .inl (σ 28))),
  (ad 29, .inl (cI, 20, .inl (σ 29))),
  (ad 30, .inl (cI, 20, .inl (σ 30))),
  (ad 31, .inl (cI, 20, .inl (σ 31)))]
def NFl : List (String × Nat × String × String × String × String) := [("PlaceMoves", 228, "PlaceMoves$Places", "load", "[I", "PlaceMoves"), ("PlaceMoves", 72, "PlaceMoves$Places", "size", "I", "PlaceMoves"), ("PlaceMoves", 242, "PlaceMoves$Things", "least", "[I", "PlaceMoves"), ("PlaceMoves", 245, "PlaceMoves$Things", "middle", "[I", "PlaceMoves"), ("PlaceMoves", 248, "PlaceMoves$Things", "greatest", "[I", "PlaceMoves"), ("PlaceMoves", 239, "PlaceMoves$Things", "grams", "[I", "PlaceMoves"), ("PlaceMoves", 91, "PlaceMoves$Things", "keysNeeded", "[I", "PlaceMoves"), ("PlaceMoves", 97, "PlaceMoves$Things", "isBox", "[Z", "PlaceMoves"), ("PlaceMoves", 84, "PlaceMoves$Things", "size", "I", "PlaceMoves"), ("PlaceMoves", 100, "PlaceMoves$Rows", "size", "[I", "PlaceMoves"), ("PlaceMoves", 138, "PlaceMoves$Rows", "hour", "[I", "PlaceMoves"), ("PlaceMoves", 126, "PlaceMoves$Rows", "kind", "[I", "PlaceMoves"), ("PlaceMoves", 141, "PlaceMoves$Rows", "target", "[I", "PlaceMoves"), ("PlaceMoves", 186, "PlaceMoves$Rows", "total", "I", "PlaceMoves"), ("PlaceMoves", 151, "PlaceMoves$Doors", "size", "I", "PlaceMoves"), ("PlaceMoves", 235, "PlaceMoves$Plans", "object", "[I", "PlaceMoves"), ("PlaceMoves", 238, "PlaceMoves$Plans", "place", "[I", "PlaceMoves"), ("PlaceMoves", 225, "PlaceMoves$Plans", "from", "[I", "PlaceMoves"), ("PlaceMoves", 164, "PlaceMoves$Plans", "size", "I", "PlaceMoves"), ("PlaceMoves", 210, "PlaceMoves$QuietTimes", "place", "[I", "PlaceMoves"), ("PlaceMoves", 183, "PlaceMoves$QuietTimes", "size", "I", "PlaceMoves")]
def NMl : List (String × Nat × MethodName × String) := [("PlaceMoves", 9, ⟨"PlaceMoves$Places", "<init>", "()V"⟩, "PlaceMoves"), ("PlaceMoves", 18, ⟨"PlaceMoves$Things", "<init>", "()V"⟩, "PlaceMoves"), ("PlaceMoves", 25, ⟨"PlaceMoves$Rows", "<init>", "()V"⟩, "PlaceMoves"), ("PlaceMoves", 32, ⟨"PlaceMoves$Doors", "<init>", "()V"⟩, "PlaceMoves"), ("PlaceMoves", 39, ⟨"PlaceMoves$Plans", "<init>", "()V"⟩, "PlaceMoves"), ("PlaceMoves", 46, ⟨"PlaceMoves$QuietTimes", "<init>", "()V"⟩, "PlaceMoves")]
def NFw (q : String × Nat × String × String × String × String) : Cond := .fieldLinkNest q.1 q.2.1 q.2.2.1 q.2.2.2.1 q.2.2.2.2.1 q.2.2.2.2.2
def NMw (q : String × Nat × MethodName × String) : Cond := .methodLinkNest q.1 q.2.1 q.2.2.1 q.2.2.2
/-- what the tables say at a state, as it is handed to every callee -/
def KX (G : va_G) (cI cZ : ClassId) (U : State) : Prop := va_K G clX [(cI, .int), (cZ, .boolean)] U ∧ (∀ q ∈ NFl, va_Nw (NFw q) U) ∧ ∀ q ∈ NMl, va_Nw (NMw q) U
theorem KX.warm {G : va_G} {cI cZ : ClassId} {s U : State} (h : KX G cI cZ s) (hW : s.WarmedH U.vm) : KX G cI cZ U :=
  ⟨va_K.moved hW.alike h.1, fun q hq => va_Nw.warmF hW (h.2.1 q hq), fun q hq => va_Nw.warmM hW (h.2.2 q hq)⟩
theorem KX.same {G : va_G} {cI cZ : ClassId} {u U : State} (h : KX G cI cZ u) (e : u.vm = U.vm) : KX G cI cZ U :=
  ⟨va_K.moved (by rw [e]; exact Vm.Alike.refl _) h.1, fun q hq => va_Nw.same rfl e (h.2.1 q hq), fun q hq => va_Nw.same rfl e (h.2.2 q hq)⟩
def CX (own : String) (cc : ByteArray) (p : Program) (s : State) (m : MethodId) (args : Array Value) (c : Code) (G : va_G) (cI cZ : ClassId) : Prop :=
  p.tables.exec = Jvm.exec ∧ c.code = cc ∧ s.vm.findClass own = some m.cls ∧ (∀ w ∈ WG, w.before args s = true) ∧ KX G cI cZ s
/-- a reading method's start -/
def PcX (G : va_G) (ad : Nat → Nat) (cI cZ : ClassId) (σ : Sg) (av : List Value) : Array Value → State → Prop := va_Pc av (fun U => va_P G clX (wX ad cI cZ σ) U.heap ∧ KX G cI cZ U)
theorem PcX.blind {G : va_G} {ad : Nat → Nat} {cI cZ : ClassId} {σ : Sg} {av : List Value} : FrameBlind (PcX G ad cI cZ σ av) := fun a U g mk h => ⟨h.1, h.2.1, h.2.2.same rfl⟩
/-- a writing method's world -/
def AX (ad : Nat → Nat) : Nat → Prop := fun q => ∃ k, k < 32 ∧ q = ad k
def DX (ad : Nat → Nat) : Prop := ∀ i j, i < 32 → j < 32 → ad i = ad j → i = j
def WS (G : va_G) (ad : Nat → Nat) (cI cZ : ClassId) (s : State) (σ : Sg) (H : Heap) (locs : List Loc) : Prop := va_P G clX (wX ad cI cZ σ) H ∧ va_S (AX ad) s.heap H locs
