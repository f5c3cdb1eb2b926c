/-! words of mine for the pure pictures -/
abbrev Sg : Type := Nat → Nat → Int32
def st (σ : Sg) (k j : Nat) (x : Int32) : Sg := fun q => if q = k then upd (σ k) j x else σ q
def gd {β : Type} (b : Bool) (o : Option β) : Option β := if b = true then o else none
def lt1 {α β : Type} (v : α) (f : α → β) : β := f v
def inB (i : Int32) (n : Nat) : Bool := !(decide (i < 0) || decide (n ≤ i.toNatClampNeg))
def isB (v : Int32) : Bool := decide (v = 0) || decide (v = 1)
def ush (x y : Int32) : Int32 := (x.toUInt32 >>> (y.toUInt32 &&& Int32.toUInt32 31)).toInt32
def lush (x : Int64) (y : Int32) : Int64 := (x.toUInt64 >>> (y.toInt64.toUInt64 &&& Int64.toUInt64 63)).toInt64
def itr {α : Type} (F : α → α) (z : α) : Nat → α
  | 0 => z
  | n + 1 => F (itr F z n)
def fuel : Nat := 2000
theorem gd_some {β : Type} {b : Bool} {o : Option β} {x : β} (h : gd b o = some x) : b = true ∧ o = some x := by
  unfold gd at h
  by_cases hb : b = true
  · rw [if_pos hb] at h; exact ⟨hb, h⟩
  · rw [if_neg hb] at h; cases h
theorem ob_some {α β : Type} {o : Option α} {f : α → Option β} {x : β} (h : o.bind f = some x) : ∃ r, o = some r ∧ f r = some x := by
  cases o with
  | none => cases h
  | some r => exact ⟨r, rfl, h⟩
theorem lt1_some {α β : Type} {v : α} {f : α → β} {x : β} (h : lt1 v f = x) : ∃ y, y = v ∧ f y = x := ⟨v, rfl, h⟩
theorem inB_in {i : Int32} {n : Nat} (h : inB i n = true) : vp_in i n := by
  unfold inB at h
  unfold vp_in
  simpa using h
theorem isB_nar {v : Int32} (h : isB v = true) : narrow .boolean (.int v) = .int v := by
  unfold isB at h
  simp only [Bool.or_eq_true, decide_eq_true_eq] at h
  rcases h with rfl | rfl <;> rfl
/-- the tables' words that a call hands on -/
def WG : List Cond := lw_tbl.filter goodWord
theorem wg {i : Nat} {w : Cond} (h : lw_tbl[i]? = some w) (g : goodWord w = true) : w ∈ WG := List.mem_filter.mpr ⟨List.mem_of_getElem? h, g⟩
theorem wg_good {w : Cond} (h : w ∈ WG) : (w.onTables && w.keeps) = true ∨ ∃ ty, w = .arrayClass ty := good_of_word (List.mem_filter.mp h).2
theorem wg_in {L : List Cond} (h : ∀ w ∈ L, w ∈ WG) : GoodIn WG L := fun w hw => ⟨h w hw, wg_good (h w hw)⟩
theorem wg_code {y : MethodName} {cc : ByteArray} {n : Nat} {r : Option FieldType} (h : Cond.code y cc n r ∈ WG) : GoodIn WG (.code y cc n r :: WG) :=
  wg_in fun w hw => (List.mem_cons.mp hw).elim (fun e => e ▸ h) id
theorem wg_V {own C : String} {idx : Nat} {y : MethodName} {cc : ByteArray} {n : Nat} {r : Option FieldType} (h1 : Cond.methodLink own idx y ∈ WG) (h2 : Cond.instanceMethod y ∈ WG) (h3 : Cond.selects C y y ∈ WG) (h4 : Cond.initialized C ∈ WG) (h5 : Cond.code y cc n r ∈ WG) :
    GoodIn WG (wsV own idx C y (.code y cc n r :: WG)) := wg_in fun w hw => by
  unfold wsV at hw
  rcases List.mem_append.mp hw with h | h
  · simp only [List.mem_cons, List.not_mem_nil, or_false] at h
    rcases h with rfl | rfl | rfl | rfl <;> assumption
  · exact (List.mem_cons.mp h).elim (fun e => e ▸ h5) id
theorem wg_S {own : String} {idx : Nat} {y : MethodName} {cc : ByteArray} {n : Nat} {r : Option FieldType} (h1 : Cond.methodLink own idx y ∈ WG) (h2 : Cond.static y ∈ WG) (h4 : Cond.initialized y.cls ∈ WG) (h5 : Cond.code y cc n r ∈ WG) :
    GoodIn WG (va_wsS own idx y (.code y cc n r :: WG)) := wg_in fun w hw => by
  unfold va_wsS at hw
  rcases List.mem_append.mp hw with h | h
  · simp only [List.mem_cons, List.not_mem_nil, or_false] at h
    rcases h with rfl | rfl | rfl <;> assumption
  · exact (List.mem_cons.mp h).elim (fun e => e ▸ h5) id
