/-! the reference's world: one object and 23 arrays -/
def wR (ad : Nat → Nat) (cI cZ : ClassId) (σ : Sg) : va_W := [(ad 0, .inr (7, [.int (σ 0 0), .int (σ 0 1), .int (σ 0 2), .ref (ad 1), .ref (ad 2), .int (σ 0 3), .ref (ad 3), .ref (ad 4), .ref (ad 5), .ref (ad 6), .ref (ad 7), .ref (ad 8), .ref (ad 9), .ref (ad 10), .ref (ad 11), .int (σ 0 4), .ref (ad 12), .ref (ad 13), .ref (ad 14), .ref (ad 15), .ref (ad 16), .int (σ 0 5), .ref (ad 17), .ref (ad 18), .ref (ad 19), .ref (ad 20), .int (σ 0 6), .ref (ad 21), .ref (ad 22), .ref (ad 23), .int (σ 0 7), .int (σ 0 8)])),
  (ad 1, .inl (cI, 24, .inl (σ 1))),
  (ad 2, .inl (cI, 24, .inl (σ 2))),
  (ad 3, .inl (cI, 60, .inl (σ 3))),
  (ad 4, .inl (cI, 20, .inl (σ 4))),
  (ad 5, .inl (cI, 20, .inl (σ 5))),
  (ad 6, .inl (cZ, 20, .inl (σ 6))),
  (ad 7, .inl (cZ, 10, .inl (σ 7))),
  (ad 8, .inl (cI, 20, .inl (σ 8))),
  (ad 9, .inl (cI, 800, .inl (σ 9))),
  (ad 10, .inl (cI, 800, .inl (σ 10))),
  (ad 11, .inl (cI, 800, .inl (σ 11))),
  (ad 12, .inl (cI, 40, .inl (σ 12))),
  (ad 13, .inl (cI, 40, .inl (σ 13))),
  (ad 14, .inl (cI, 40, .inl (σ 14))),
  (ad 15, .inl (cI, 40, .inl (σ 15))),
  (ad 16, .inl (cI, 24, .inl (σ 16))),
  (ad 17, .inl (cI, 30, .inl (σ 17))),
  (ad 18, .inl (cI, 30, .inl (σ 18))),
  (ad 19, .inl (cI, 30, .inl (σ 19))),
  (ad 20, .inl (cI, 30, .inl (σ 20))),
  (ad 21, .inl (cI, 20, .inl (σ 21))),
  (ad 22, .inl (cI, 20, .inl (σ 22))),
  (ad 23, .inl (cI, 20, .inl (σ 23)))]
def PcR (G : va_G) (ad : Nat → Nat) (cI cZ : ClassId) (σ : Sg) (av : List Value) : Array Value → State → Prop := va_Pc av (fun U => va_P G clX (wR ad cI cZ σ) U.heap ∧ KX G cI cZ U)
theorem PcR.blind {G : va_G} {ad : Nat → Nat} {cI cZ : ClassId} {σ : Sg} {av : List Value} : FrameBlind (PcR G ad cI cZ σ av) := fun a U g mk h => ⟨h.1, h.2.1, h.2.2.same rfl⟩
def AR (ad : Nat → Nat) : Nat → Prop := fun q => ∃ k, k < 24 ∧ q = ad k
def DR (ad : Nat → Nat) : Prop := ∀ i j, i < 24 → j < 24 → ad i = ad j → i = j
def WR (G : va_G) (ad : Nat → Nat) (cI cZ : ClassId) (s : State) (σ : Sg) (H : Heap) (locs : List Loc) : Prop := va_P G clX (wR ad cI cZ σ) H ∧ va_S (AR ad) s.heap H locs
