set_option maxRecDepth 100000 in
theorem w_206 : Cond.codeWith ⟨"PlaceMovesLaw", "place", "(LPlaceMoves;II[J)I"⟩ method_3_code 5 (some FieldType.int) [(0, 10, 13, 13), (0, 10, 17, 15), (0, 10, 21, 17)] ∈ WG := wg (i := 240) rfl rfl
set_option maxRecDepth 100000 in
theorem w_338 : Cond.codeWith ⟨"PlaceMovesLaw", "object", "(LPlaceMoves;IIII[J)I"⟩ method_4_code 7 (some FieldType.int) [(0, 14, 17, 15), (0, 14, 21, 17)] ∈ WG := wg (i := 372) rfl rfl
set_option maxRecDepth 100000 in
theorem w_356 : Cond.codeWith ⟨"PlaceMovesLaw", "keys", "(LPlaceMoves;II[J)I"⟩ method_5_code 5 (some FieldType.int) [(0, 10, 13, 13), (0, 10, 17, 15)] ∈ WG := wg (i := 390) rfl rfl
set_option maxRecDepth 100000 in
theorem w_367 : Cond.codeWith ⟨"PlaceMovesLaw", "key", "(LPlaceMoves;IZ[J)I"⟩ method_6_code 5 (some FieldType.int) [(0, 17, 20, 13)] ∈ WG := wg (i := 401) rfl rfl
set_option maxRecDepth 100000 in
theorem w_378 : Cond.codeWith ⟨"PlaceMovesLaw", "box", "(LPlaceMoves;I[J)I"⟩ method_7_code 4 (some FieldType.int) [(0, 16, 19, 13)] ∈ WG := wg (i := 412) rfl rfl
set_option maxRecDepth 100000 in
theorem w_385 : Cond.codeWith ⟨"PlaceMovesLaw", "move", "(LPlaceMoves;IIIII[J)I"⟩ method_8_code 8 (some FieldType.int) [(0, 16, 19, 13), (0, 16, 23, 15), (0, 16, 27, 17)] ∈ WG := wg (i := 419) rfl rfl
set_option maxRecDepth 100000 in
theorem w_453 : Cond.codeWith ⟨"PlaceMovesLaw", "into", "(LPlaceMoves;III[J)I"⟩ method_9_code 6 (some FieldType.int) [(0, 12, 15, 13), (0, 12, 19, 15), (0, 12, 23, 17)] ∈ WG := wg (i := 487) rfl rfl
set_option maxRecDepth 100000 in
theorem w_468 : Cond.codeWith ⟨"PlaceMovesLaw", "lost", "(LPlaceMoves;II[J)I"⟩ method_10_code 5 (some FieldType.int) [(0, 17, 20, 13), (0, 17, 24, 15), (0, 17, 28, 17)] ∈ WG := wg (i := 502) rfl rfl
set_option maxRecDepth 100000 in
theorem w_475 : Cond.codeWith ⟨"PlaceMovesLaw", "where", "(LPlaceMoves;II[J)I"⟩ method_11_code 5 (some FieldType.int) [(0, 10, 13, 13)] ∈ WG := wg (i := 509) rfl rfl
set_option maxRecDepth 100000 in
theorem w_482 : Cond.codeWith ⟨"PlaceMovesLaw", "last", "(LPlaceMoves;I[J)I"⟩ method_12_code 4 (some FieldType.int) [(0, 9, 12, 13)] ∈ WG := wg (i := 516) rfl rfl
set_option maxRecDepth 100000 in
theorem w_494 : Cond.codeWith ⟨"PlaceMovesLaw", "history", "(LPlaceMoves;III[J)I"⟩ method_13_code 6 (some FieldType.int) [(0, 12, 15, 13), (0, 12, 19, 15)] ∈ WG := wg (i := 528) rfl rfl
set_option maxRecDepth 100000 in
theorem w_502 : Cond.codeWith ⟨"PlaceMovesLaw", "door", "(LPlaceMoves;IIII[J)I"⟩ method_14_code 7 (some FieldType.int) [(0, 14, 17, 13), (0, 14, 21, 15), (0, 14, 25, 17)] ∈ WG := wg (i := 536) rfl rfl
set_option maxRecDepth 100000 in
theorem w_516 : Cond.codeWith ⟨"PlaceMovesLaw", "passes", "(LPlaceMoves;II[J)I"⟩ method_15_code 5 (some FieldType.int) [(0, 17, 20, 13)] ∈ WG := wg (i := 550) rfl rfl
set_option maxRecDepth 100000 in
theorem w_535 : Cond.codeWith ⟨"PlaceMovesLaw", "way", "(LPlaceMoves;II[J)I"⟩ method_16_code 5 (some FieldType.int) [(0, 10, 13, 13)] ∈ WG := wg (i := 569) rfl rfl
set_option maxRecDepth 100000 in
theorem w_554 : Cond.codeWith ⟨"PlaceMovesLaw", "planned", "(LPlaceMoves;IIII[J)I"⟩ method_17_code 7 (some FieldType.int) [(0, 14, 17, 13), (0, 14, 21, 15), (0, 14, 25, 17)] ∈ WG := wg (i := 588) rfl rfl
set_option maxRecDepth 100000 in
theorem w_569 : Cond.codeWith ⟨"PlaceMovesLaw", "used", "(LPlaceMoves;II[J)I"⟩ method_18_code 5 (some FieldType.int) [(0, 10, 13, 13)] ∈ WG := wg (i := 603) rfl rfl
set_option maxRecDepth 100000 in
theorem w_576 : Cond.codeWith ⟨"PlaceMovesLaw", "quiet", "(LPlaceMoves;III)I"⟩ method_19_code 5 (some FieldType.int) [(0, 7, 10, 13), (0, 7, 14, 15), (0, 7, 18, 17)] ∈ WG := wg (i := 610) rfl rfl
set_option maxRecDepth 100000 in
theorem w_588 : Cond.codeWith ⟨"PlaceMovesLaw", "count", "(LPlaceMoves;I[J)I"⟩ method_20_code 4 (some FieldType.int) [(0, 9, 12, 15)] ∈ WG := wg (i := 622) rfl rfl
/-! THE CLAIM OUT OF ONE WALK OF THE LAW'S BODY. Your part is whole_start (and what it stands on); all else here is the same for every law, but numbers. -/
def R_law : String := "PlaceMovesLaw"
def lw_P (b : Addr) (xs : List Int32) (args : Array Value) (s : State) : Prop := args = #[.ref b] ∧ s.IntsAt b xs ∧ xs.length ≤ 3072 ∧ (Jvm.Cond.and given_1 narrow_1).before args s = true
def lw_Q (_ : Array Value) (s : State) (o : Outcome) (t : State) : Prop := o = .returned (some (.int 1)) ∧ Framed s o t [] 1088 14225
def lw_Z (below : List Frame) (a : Array Value) (s : State) : State → Prop := fun t => ∃ o, t.status = .running ∧ Ended t below o ∧ lw_Q a s o t
/-- the law's own end, with 1 on the stack, nothing written that was there before, its room as the claim has it -/
theorem lw_ret {p : Program} {l : Launch} {e : Env} {s : State} {m : MethodId} {below : List Frame} {meth : Method} {c : Code} {b : Nat} (hx : p.tables.exec = Jvm.exec) (hb : c.code = code) (hr : meth.sig.returnType = ret) (hlocks : meth.locks = false) {pc : Nat} {H : Heap} {ls : Array Slot} (hdg : decode code pc = .ok (.ireturn, 1)) : W p l e room_1 s m #[Value.ref b] below meth c H [] 1088 14225 (lw_Z below #[Value.ref b] s) (F0 m pc ls [.int 1]) := by
  intro T hT X
  obtain ⟨fs, hret, hrun, hended, hW, hframe⟩ := X.leave (v := some (.int 1)) (hlocks := hlocks) (fun h => by rw [hr] at h; cases h)
  have hmeth' : T.vm.method? m = some meth := X.method'
  refine ⟨T.setFrames fs, ?_, .returned (some (.int 1)), hrun, hended, rfl, ⟨_, rfl⟩, hW, hframe⟩
  jvm_step X.here [X.here.top, hx, hb, hdg, hmeth', hr, ret, narrow_b1]
  (try refine ⟨rfl, ?_⟩); (try refine ⟨rfl, ?_⟩)
  first | (intro acts; rw [hret _ acts rfl rfl rfl]) | rw [hret _ _ rfl rfl rfl]
  exact Steps.refl _
/-- what holds at the law's entry: the machine, the code, the tables' words (any of lw_tbl by 'hts w (by decide +kernel)'), the script of L ints xs at the cell b, what the Statement gives of the start (any of its parts by flat_of_before) -/
def lw_At (p : Program) (s : State) (m : MethodId) (meth : Method) (c : Code) (b L : Nat) (xs : Nat → Int32) : Prop :=
  p.tables.exec = Jvm.exec ∧ c.code = code ∧ meth.sig.returnType = ret ∧ c.maxLocals = 7 ∧ s.vm.findClass R_law = some m.cls ∧ (∀ w ∈ lw_tbl, w.before #[Value.ref b] s = true) ∧ va_X b L xs s s.heap ∧ b < s.heap.size ∧ meth.locks = false ∧ (Jvm.Cond.and given_1 narrow_1).before #[Value.ref b] s = true
