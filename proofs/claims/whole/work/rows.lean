section
-- ===== PART A: goes FIRST, ahead of the names: the tables' words, and 'selects' of the private methods out of them =====
/-- a private method of a class that the tables say can be made, by its rows of tables_1 -/
def lw_okq (q : MethodName × Nat) : Prop := (q.1.cls ≠ "java/lang/invoke/MethodHandle" ∧ q.1.cls ≠ "java/lang/invoke/VarHandle") ∧ Cond.instantiable q.1.cls q.2 ∈ tables_1 ∧ Cond.privateMethod q.1 ∈ tables_1 ∧ Cond.instanceMethod q.1 ∈ tables_1
theorem lw_p0 : lw_okq (⟨"PlaceMoves", "needPlace", "(I)V"⟩, 9) := ⟨⟨by decide +kernel, by decide +kernel⟩, List.mem_of_getElem? (i := 17) (by decide +kernel), List.mem_of_getElem? (i := 215) (by decide +kernel), List.mem_of_getElem? (i := 216) (by decide +kernel)⟩
theorem lw_p1 : lw_okq (⟨"java/lang/Throwable", "fillInStackTrace", "(I)Ljava/lang/Throwable;"⟩, 6) := ⟨⟨by decide +kernel, by decide +kernel⟩, List.mem_of_getElem? (i := 260) (by decide +kernel), List.mem_of_getElem? (i := 258) (by decide +kernel), List.mem_of_getElem? (i := 259) (by decide +kernel)⟩
theorem lw_p2 : lw_okq (⟨"PlaceMoves", "needObject", "(I)V"⟩, 9) := ⟨⟨by decide +kernel, by decide +kernel⟩, List.mem_of_getElem? (i := 17) (by decide +kernel), List.mem_of_getElem? (i := 362) (by decide +kernel), List.mem_of_getElem? (i := 363) (by decide +kernel)⟩
theorem lw_p3 : lw_okq (⟨"PlaceMoves", "needPerson", "(I)V"⟩, 9) := ⟨⟨by decide +kernel, by decide +kernel⟩, List.mem_of_getElem? (i := 17) (by decide +kernel), List.mem_of_getElem? (i := 373) (by decide +kernel), List.mem_of_getElem? (i := 374) (by decide +kernel)⟩
theorem lw_p4 : lw_okq (⟨"PlaceMoves", "needKeysOf", "(III)V"⟩, 9) := ⟨⟨by decide +kernel, by decide +kernel⟩, List.mem_of_getElem? (i := 17) (by decide +kernel), List.mem_of_getElem? (i := 391) (by decide +kernel), List.mem_of_getElem? (i := 392) (by decide +kernel)⟩
theorem lw_p5 : lw_okq (⟨"PlaceMoves", "placeAt", "(II)I"⟩, 9) := ⟨⟨by decide +kernel, by decide +kernel⟩, List.mem_of_getElem? (i := 17) (by decide +kernel), List.mem_of_getElem? (i := 396) (by decide +kernel), List.mem_of_getElem? (i := 397) (by decide +kernel)⟩
theorem lw_p6 : lw_okq (⟨"PlaceMoves", "isBarred", "(III)Z"⟩, 9) := ⟨⟨by decide +kernel, by decide +kernel⟩, List.mem_of_getElem? (i := 17) (by decide +kernel), List.mem_of_getElem? (i := 407) (by decide +kernel), List.mem_of_getElem? (i := 408) (by decide +kernel)⟩
theorem lw_p7 : lw_okq (⟨"PlaceMoves", "comesByRow", "(IIII)Z"⟩, 9) := ⟨⟨by decide +kernel, by decide +kernel⟩, List.mem_of_getElem? (i := 17) (by decide +kernel), List.mem_of_getElem? (i := 419) (by decide +kernel), List.mem_of_getElem? (i := 420) (by decide +kernel)⟩
theorem lw_p8 : lw_okq (⟨"PlaceMoves", "loadsHold", "(III)Z"⟩, 9) := ⟨⟨by decide +kernel, by decide +kernel⟩, List.mem_of_getElem? (i := 17) (by decide +kernel), List.mem_of_getElem? (i := 427) (by decide +kernel), List.mem_of_getElem? (i := 428) (by decide +kernel)⟩
theorem lw_p9 : lw_okq (⟨"PlaceMoves", "loadsHoldAt", "(II)Z"⟩, 9) := ⟨⟨by decide +kernel, by decide +kernel⟩, List.mem_of_getElem? (i := 17) (by decide +kernel), List.mem_of_getElem? (i := 431) (by decide +kernel), List.mem_of_getElem? (i := 432) (by decide +kernel)⟩
theorem lw_p10 : lw_okq (⟨"PlaceMoves", "weighAt", "(I)V"⟩, 9) := ⟨⟨by decide +kernel, by decide +kernel⟩, List.mem_of_getElem? (i := 17) (by decide +kernel), List.mem_of_getElem? (i := 435) (by decide +kernel), List.mem_of_getElem? (i := 436) (by decide +kernel)⟩
theorem lw_p11 : lw_okq (⟨"PlaceMoves", "weightOf", "(I)I"⟩, 9) := ⟨⟨by decide +kernel, by decide +kernel⟩, List.mem_of_getElem? (i := 17) (by decide +kernel), List.mem_of_getElem? (i := 444) (by decide +kernel), List.mem_of_getElem? (i := 445) (by decide +kernel)⟩
theorem lw_p12 : lw_okq (⟨"PlaceMoves", "isWithin", "(III)Z"⟩, 9) := ⟨⟨by decide +kernel, by decide +kernel⟩, List.mem_of_getElem? (i := 17) (by decide +kernel), List.mem_of_getElem? (i := 459) (by decide +kernel), List.mem_of_getElem? (i := 460) (by decide +kernel)⟩
theorem lw_p13 : lw_okq (⟨"PlaceMoves", "standsSince", "(II)I"⟩, 9) := ⟨⟨by decide +kernel, by decide +kernel⟩, List.mem_of_getElem? (i := 17) (by decide +kernel), List.mem_of_getElem? (i := 488) (by decide +kernel), List.mem_of_getElem? (i := 489) (by decide +kernel)⟩
theorem lw_p14 : lw_okq (⟨"PlaceMoves", "fits", "(II)Z"⟩, 9) := ⟨⟨by decide +kernel, by decide +kernel⟩, List.mem_of_getElem? (i := 17) (by decide +kernel), List.mem_of_getElem? (i := 522) (by decide +kernel), List.mem_of_getElem? (i := 523) (by decide +kernel)⟩
theorem lw_p15 : lw_okq (⟨"PlaceMoves", "fittingDoors", "(I)J"⟩, 9) := ⟨⟨by decide +kernel, by decide +kernel⟩, List.mem_of_getElem? (i := 17) (by decide +kernel), List.mem_of_getElem? (i := 541) (by decide +kernel), List.mem_of_getElem? (i := 542) (by decide +kernel)⟩
def lw_privs_1 : List (MethodName × Nat) := [(⟨"PlaceMoves", "needPlace", "(I)V"⟩, 9), (⟨"java/lang/Throwable", "fillInStackTrace", "(I)Ljava/lang/Throwable;"⟩, 6), (⟨"PlaceMoves", "needObject", "(I)V"⟩, 9), (⟨"PlaceMoves", "needPerson", "(I)V"⟩, 9), (⟨"PlaceMoves", "needKeysOf", "(III)V"⟩, 9), (⟨"PlaceMoves", "placeAt", "(II)I"⟩, 9), (⟨"PlaceMoves", "isBarred", "(III)Z"⟩, 9), (⟨"PlaceMoves", "comesByRow", "(IIII)Z"⟩, 9), (⟨"PlaceMoves", "loadsHold", "(III)Z"⟩, 9), (⟨"PlaceMoves", "loadsHoldAt", "(II)Z"⟩, 9), (⟨"PlaceMoves", "weighAt", "(I)V"⟩, 9), (⟨"PlaceMoves", "weightOf", "(I)I"⟩, 9), (⟨"PlaceMoves", "isWithin", "(III)Z"⟩, 9), (⟨"PlaceMoves", "standsSince", "(II)I"⟩, 9), (⟨"PlaceMoves", "fits", "(II)Z"⟩, 9), (⟨"PlaceMoves", "fittingDoors", "(I)J"⟩, 9)]
theorem lw_r1 : ∀ q ∈ lw_privs_1, lw_okq q := List.forall_mem_cons.mpr ⟨lw_p0, List.forall_mem_cons.mpr ⟨lw_p1, List.forall_mem_cons.mpr ⟨lw_p2, List.forall_mem_cons.mpr ⟨lw_p3, List.forall_mem_cons.mpr ⟨lw_p4, List.forall_mem_cons.mpr ⟨lw_p5, List.forall_mem_cons.mpr ⟨lw_p6, List.forall_mem_cons.mpr ⟨lw_p7, List.forall_mem_cons.mpr ⟨lw_p8, List.forall_mem_cons.mpr ⟨lw_p9, List.forall_mem_cons.mpr ⟨lw_p10, List.forall_mem_cons.mpr ⟨lw_p11, List.forall_mem_cons.mpr ⟨lw_p12, List.forall_mem_cons.mpr ⟨lw_p13, List.forall_mem_cons.mpr ⟨lw_p14, List.forall_mem_cons.mpr ⟨lw_p15, fun _ h => absurd h List.not_mem_nil⟩⟩⟩⟩⟩⟩⟩⟩⟩⟩⟩⟩⟩⟩⟩⟩
theorem lw_p16 : lw_okq (⟨"PlaceMoves", "doorsBetween", "(IIJ)I"⟩, 9) := ⟨⟨by decide +kernel, by decide +kernel⟩, List.mem_of_getElem? (i := 17) (by decide +kernel), List.mem_of_getElem? (i := 545) (by decide +kernel), List.mem_of_getElem? (i := 546) (by decide +kernel)⟩
theorem lw_p17 : lw_okq (⟨"PlaceMovesModel", "isPlace", "(I)Z"⟩, 32) := ⟨⟨by decide +kernel, by decide +kernel⟩, List.mem_of_getElem? (i := 595) (by decide +kernel), List.mem_of_getElem? (i := 706) (by decide +kernel), List.mem_of_getElem? (i := 707) (by decide +kernel)⟩
theorem lw_p18 : lw_okq (⟨"PlaceMovesModel", "goes", "(ZZZ)Z"⟩, 32) := ⟨⟨by decide +kernel, by decide +kernel⟩, List.mem_of_getElem? (i := 595) (by decide +kernel), List.mem_of_getElem? (i := 714) (by decide +kernel), List.mem_of_getElem? (i := 715) (by decide +kernel)⟩
theorem lw_p19 : lw_okq (⟨"PlaceMovesModel", "isObject", "(I)Z"⟩, 32) := ⟨⟨by decide +kernel, by decide +kernel⟩, List.mem_of_getElem? (i := 595) (by decide +kernel), List.mem_of_getElem? (i := 730) (by decide +kernel), List.mem_of_getElem? (i := 731) (by decide +kernel)⟩
theorem lw_p20 : lw_okq (⟨"PlaceMovesModel", "mayOpen", "(III)Z"⟩, 32) := ⟨⟨by decide +kernel, by decide +kernel⟩, List.mem_of_getElem? (i := 595) (by decide +kernel), List.mem_of_getElem? (i := 749) (by decide +kernel), List.mem_of_getElem? (i := 750) (by decide +kernel)⟩
theorem lw_p21 : lw_okq (⟨"PlaceMovesModel", "at", "(II)I"⟩, 32) := ⟨⟨by decide +kernel, by decide +kernel⟩, List.mem_of_getElem? (i := 595) (by decide +kernel), List.mem_of_getElem? (i := 753) (by decide +kernel), List.mem_of_getElem? (i := 754) (by decide +kernel)⟩
theorem lw_p22 : lw_okq (⟨"PlaceMovesModel", "rowAt", "(II)I"⟩, 32) := ⟨⟨by decide +kernel, by decide +kernel⟩, List.mem_of_getElem? (i := 595) (by decide +kernel), List.mem_of_getElem? (i := 757) (by decide +kernel), List.mem_of_getElem? (i := 758) (by decide +kernel)⟩
theorem lw_p23 : lw_okq (⟨"PlaceMovesModel", "barred", "(III)Z"⟩, 32) := ⟨⟨by decide +kernel, by decide +kernel⟩, List.mem_of_getElem? (i := 595) (by decide +kernel), List.mem_of_getElem? (i := 761) (by decide +kernel), List.mem_of_getElem? (i := 762) (by decide +kernel)⟩
theorem lw_p24 : lw_okq (⟨"PlaceMovesModel", "lies", "(II)Z"⟩, 32) := ⟨⟨by decide +kernel, by decide +kernel⟩, List.mem_of_getElem? (i := 595) (by decide +kernel), List.mem_of_getElem? (i := 765) (by decide +kernel), List.mem_of_getElem? (i := 766) (by decide +kernel)⟩
theorem lw_p25 : lw_okq (⟨"PlaceMovesModel", "mayCome", "(III)Z"⟩, 32) := ⟨⟨by decide +kernel, by decide +kernel⟩, List.mem_of_getElem? (i := 595) (by decide +kernel), List.mem_of_getElem? (i := 769) (by decide +kernel), List.mem_of_getElem? (i := 770) (by decide +kernel)⟩
theorem lw_p26 : lw_okq (⟨"PlaceMovesModel", "bears", "(II)Z"⟩, 32) := ⟨⟨by decide +kernel, by decide +kernel⟩, List.mem_of_getElem? (i := 595) (by decide +kernel), List.mem_of_getElem? (i := 773) (by decide +kernel), List.mem_of_getElem? (i := 774) (by decide +kernel)⟩
theorem lw_p27 : lw_okq (⟨"PlaceMovesModel", "weight", "(II)I"⟩, 32) := ⟨⟨by decide +kernel, by decide +kernel⟩, List.mem_of_getElem? (i := 595) (by decide +kernel), List.mem_of_getElem? (i := 777) (by decide +kernel), List.mem_of_getElem? (i := 778) (by decide +kernel)⟩
theorem lw_p28 : lw_okq (⟨"PlaceMovesModel", "isPlanned", "(III)Z"⟩, 32) := ⟨⟨by decide +kernel, by decide +kernel⟩, List.mem_of_getElem? (i := 595) (by decide +kernel), List.mem_of_getElem? (i := 781) (by decide +kernel), List.mem_of_getElem? (i := 782) (by decide +kernel)⟩
theorem lw_p29 : lw_okq (⟨"PlaceMovesModel", "row", "(IIII)V"⟩, 32) := ⟨⟨by decide +kernel, by decide +kernel⟩, List.mem_of_getElem? (i := 595) (by decide +kernel), List.mem_of_getElem? (i := 785) (by decide +kernel), List.mem_of_getElem? (i := 786) (by decide +kernel)⟩
theorem lw_p30 : lw_okq (⟨"PlaceMovesModel", "holds", "(III)Z"⟩, 32) := ⟨⟨by decide +kernel, by decide +kernel⟩, List.mem_of_getElem? (i := 595) (by decide +kernel), List.mem_of_getElem? (i := 793) (by decide +kernel), List.mem_of_getElem? (i := 794) (by decide +kernel)⟩
theorem lw_p31 : lw_okq (⟨"PlaceMovesModel", "fits", "(II)Z"⟩, 32) := ⟨⟨by decide +kernel, by decide +kernel⟩, List.mem_of_getElem? (i := 595) (by decide +kernel), List.mem_of_getElem? (i := 797) (by decide +kernel), List.mem_of_getElem? (i := 798) (by decide +kernel)⟩
def lw_privs_2 : List (MethodName × Nat) := [(⟨"PlaceMoves", "doorsBetween", "(IIJ)I"⟩, 9), (⟨"PlaceMovesModel", "isPlace", "(I)Z"⟩, 32), (⟨"PlaceMovesModel", "goes", "(ZZZ)Z"⟩, 32), (⟨"PlaceMovesModel", "isObject", "(I)Z"⟩, 32), (⟨"PlaceMovesModel", "mayOpen", "(III)Z"⟩, 32), (⟨"PlaceMovesModel", "at", "(II)I"⟩, 32), (⟨"PlaceMovesModel", "rowAt", "(II)I"⟩, 32), (⟨"PlaceMovesModel", "barred", "(III)Z"⟩, 32), (⟨"PlaceMovesModel", "lies", "(II)Z"⟩, 32), (⟨"PlaceMovesModel", "mayCome", "(III)Z"⟩, 32), (⟨"PlaceMovesModel", "bears", "(II)Z"⟩, 32), (⟨"PlaceMovesModel", "weight", "(II)I"⟩, 32), (⟨"PlaceMovesModel", "isPlanned", "(III)Z"⟩, 32), (⟨"PlaceMovesModel", "row", "(IIII)V"⟩, 32), (⟨"PlaceMovesModel", "holds", "(III)Z"⟩, 32), (⟨"PlaceMovesModel", "fits", "(II)Z"⟩, 32)]
theorem lw_r2 : ∀ q ∈ lw_privs_2, lw_okq q := List.forall_mem_cons.mpr ⟨lw_p16, List.forall_mem_cons.mpr ⟨lw_p17, List.forall_mem_cons.mpr ⟨lw_p18, List.forall_mem_cons.mpr ⟨lw_p19, List.forall_mem_cons.mpr ⟨lw_p20, List.forall_mem_cons.mpr ⟨lw_p21, List.forall_mem_cons.mpr ⟨lw_p22, List.forall_mem_cons.mpr ⟨lw_p23, List.forall_mem_cons.mpr ⟨lw_p24, List.forall_mem_cons.mpr ⟨lw_p25, List.forall_mem_cons.mpr ⟨lw_p26, List.forall_mem_cons.mpr ⟨lw_p27, List.forall_mem_cons.mpr ⟨lw_p28, List.forall_mem_cons.mpr ⟨lw_p29, List.forall_mem_cons.mpr ⟨lw_p30, List.forall_mem_cons.mpr ⟨lw_p31, fun _ h => absurd h List.not_mem_nil⟩⟩⟩⟩⟩⟩⟩⟩⟩⟩⟩⟩⟩⟩⟩⟩
theorem lw_p32 : lw_okq (⟨"PlaceMovesModel", "size", "(II)I"⟩, 32) := ⟨⟨by decide +kernel, by decide +kernel⟩, List.mem_of_getElem? (i := 595) (by decide +kernel), List.mem_of_getElem? (i := 801) (by decide +kernel), List.mem_of_getElem? (i := 802) (by decide +kernel)⟩
theorem lw_p33 : lw_okq (⟨"PlaceMovesModel", "through", "(II)Z"⟩, 32) := ⟨⟨by decide +kernel, by decide +kernel⟩, List.mem_of_getElem? (i := 595) (by decide +kernel), List.mem_of_getElem? (i := 829) (by decide +kernel), List.mem_of_getElem? (i := 830) (by decide +kernel)⟩
def lw_privs_3 : List (MethodName × Nat) := [(⟨"PlaceMovesModel", "size", "(II)I"⟩, 32), (⟨"PlaceMovesModel", "through", "(II)Z"⟩, 32)]
theorem lw_r3 : ∀ q ∈ lw_privs_3, lw_okq q := List.forall_mem_cons.mpr ⟨lw_p32, List.forall_mem_cons.mpr ⟨lw_p33, fun _ h => absurd h List.not_mem_nil⟩⟩
def lw_privs : List (MethodName × Nat) := lw_privs_1 ++ (lw_privs_2 ++ (lw_privs_3))
def lw_tbl : List Cond := k2_sels lw_privs ++ tables_1
theorem lw_privs_ok : ∀ q ∈ lw_privs, lw_okq q := by
  show ∀ q ∈ lw_privs_1 ++ (lw_privs_2 ++ (lw_privs_3)), lw_okq q
  exact List.forall_mem_append.mpr ⟨lw_r1, List.forall_mem_append.mpr ⟨lw_r2, lw_r3⟩⟩
end
section
/-! words of mine for the pure pictures -/
abbrev Sg : Type := Nat → Nat → Int32
def st (σ : Sg) (k j : Nat) (x : Int32) : Sg := fun q => if q = k then upd (σ k) j x else σ q
def gd {β : Type} (b : Bool) (o : Option β) : Option β := if b = true then o else none
def lt1 {α β : Type} (v : α) (f : α → β) : β := f v
def inB (i : Int32) (n : Nat) : Bool := !(decide (i < 0) || decide (n ≤ i.toNatClampNeg))
def isB (v : Int32) : Bool := decide (v = 0) || decide (v = 1)
def ush (x y : Int32) : Int32 := (x.toUInt32 >>> (y.toUInt32 &&& Int32.toUInt32 31)).toInt32
def lush (x : Int64) (y : Int32) : Int64 := (x.toUInt64 >>> (y.toInt64.toUInt64 &&& Int64.toUInt64 63)).toInt64
def itr {α : Type} (F : α → α) (z : α) : Nat → α
  | 0 => z
  | n + 1 => F (itr F z n)
def fuel : Nat := 2000
theorem gd_some {β : Type} {b : Bool} {o : Option β} {x : β} (h : gd b o = some x) : b = true ∧ o = some x := by
  unfold gd at h
  by_cases hb : b = true
  · rw [if_pos hb] at h; exact ⟨hb, h⟩
  · rw [if_neg hb] at h; cases h
theorem ob_some {α β : Type} {o : Option α} {f : α → Option β} {x : β} (h : o.bind f = some x) : ∃ r, o = some r ∧ f r = some x := by
  cases o with
  | none => cases h
  | some r => exact ⟨r, rfl, h⟩
theorem lt1_some {α β : Type} {v : α} {f : α → β} {x : β} (h : lt1 v f = x) : ∃ y, y = v ∧ f y = x := ⟨v, rfl, h⟩
theorem inB_in {i : Int32} {n : Nat} (h : inB i n = true) : vp_in i n := by
  unfold inB at h
  unfold vp_in
  simpa using h
theorem isB_nar {v : Int32} (h : isB v = true) : narrow .boolean (.int v) = .int v := by
  unfold isB at h
  simp only [Bool.or_eq_true, decide_eq_true_eq] at h
  rcases h with rfl | rfl <;> rfl
/-- the tables' words that a call hands on -/
def WG : List Cond := lw_tbl.filter goodWord
theorem wg {i : Nat} {w : Cond} (h : lw_tbl[i]? = some w) (g : goodWord w = true) : w ∈ WG := List.mem_filter.mpr ⟨List.mem_of_getElem? h, g⟩
theorem wg_good {w : Cond} (h : w ∈ WG) : (w.onTables && w.keeps) = true ∨ ∃ ty, w = .arrayClass ty := good_of_word (List.mem_filter.mp h).2
theorem wg_in {L : List Cond} (h : ∀ w ∈ L, w ∈ WG) : GoodIn WG L := fun w hw => ⟨h w hw, wg_good (h w hw)⟩
theorem wg_code {y : MethodName} {cc : ByteArray} {n : Nat} {r : Option FieldType} (h : Cond.code y cc n r ∈ WG) : GoodIn WG (.code y cc n r :: WG) :=
  wg_in fun w hw => (List.mem_cons.mp hw).elim (fun e => e ▸ h) id
theorem wg_V {own C : String} {idx : Nat} {y : MethodName} {cc : ByteArray} {n : Nat} {r : Option FieldType} (h1 : Cond.methodLink own idx y ∈ WG) (h2 : Cond.instanceMethod y ∈ WG) (h3 : Cond.selects C y y ∈ WG) (h4 : Cond.initialized C ∈ WG) (h5 : Cond.code y cc n r ∈ WG) :
    GoodIn WG (wsV own idx C y (.code y cc n r :: WG)) := wg_in fun w hw => by
  unfold wsV at hw
  rcases List.mem_append.mp hw with h | h
  · simp only [List.mem_cons, List.not_mem_nil, or_false] at h
    rcases h with rfl | rfl | rfl | rfl <;> assumption
  · exact (List.mem_cons.mp h).elim (fun e => e ▸ h5) id
theorem wg_S {own : String} {idx : Nat} {y : MethodName} {cc : ByteArray} {n : Nat} {r : Option FieldType} (h1 : Cond.methodLink own idx y ∈ WG) (h2 : Cond.static y ∈ WG) (h4 : Cond.initialized y.cls ∈ WG) (h5 : Cond.code y cc n r ∈ WG) :
    GoodIn WG (va_wsS own idx y (.code y cc n r :: WG)) := wg_in fun w hw => by
  unfold va_wsS at hw
  rcases List.mem_append.mp hw with h | h
  · simp only [List.mem_cons, List.not_mem_nil, or_false] at h
    rcases h with rfl | rfl | rfl <;> assumption
  · exact (List.mem_cons.mp h).elim (fun e => e ▸ h5) id
end
section
/-! each word of the tables that a call may hand on, by its place -/
theorem ws_0 : Cond.selects "PlaceMoves" ⟨"PlaceMoves", "needPlace", "(I)V"⟩ ⟨"PlaceMoves", "needPlace", "(I)V"⟩ ∈ WG := wg (i := 0) (by decide +kernel) rfl
theorem ws_1 : Cond.selects "java/lang/Throwable" ⟨"java/lang/Throwable", "fillInStackTrace", "(I)Ljava/lang/Throwable;"⟩ ⟨"java/lang/Throwable", "fillInStackTrace", "(I)Ljava/lang/Throwable;"⟩ ∈ WG := wg (i := 1) (by decide +kernel) rfl
theorem ws_2 : Cond.selects "PlaceMoves" ⟨"PlaceMoves", "needObject", "(I)V"⟩ ⟨"PlaceMoves", "needObject", "(I)V"⟩ ∈ WG := wg (i := 2) (by decide +kernel) rfl
theorem ws_3 : Cond.selects "PlaceMoves" ⟨"PlaceMoves", "needPerson", "(I)V"⟩ ⟨"PlaceMoves", "needPerson", "(I)V"⟩ ∈ WG := wg (i := 3) (by decide +kernel) rfl
theorem ws_4 : Cond.selects "PlaceMoves" ⟨"PlaceMoves", "needKeysOf", "(III)V"⟩ ⟨"PlaceMoves", "needKeysOf", "(III)V"⟩ ∈ WG := wg (i := 4) (by decide +kernel) rfl
theorem ws_5 : Cond.selects "PlaceMoves" ⟨"PlaceMoves", "placeAt", "(II)I"⟩ ⟨"PlaceMoves", "placeAt", "(II)I"⟩ ∈ WG := wg (i := 5) (by decide +kernel) rfl
theorem ws_6 : Cond.selects "PlaceMoves" ⟨"PlaceMoves", "isBarred", "(III)Z"⟩ ⟨"PlaceMoves", "isBarred", "(III)Z"⟩ ∈ WG := wg (i := 6) (by decide +kernel) rfl
theorem ws_7 : Cond.selects "PlaceMoves" ⟨"PlaceMoves", "comesByRow", "(IIII)Z"⟩ ⟨"PlaceMoves", "comesByRow", "(IIII)Z"⟩ ∈ WG := wg (i := 7) (by decide +kernel) rfl
theorem ws_8 : Cond.selects "PlaceMoves" ⟨"PlaceMoves", "loadsHold", "(III)Z"⟩ ⟨"PlaceMoves", "loadsHold", "(III)Z"⟩ ∈ WG := wg (i := 8) (by decide +kernel) rfl
theorem ws_9 : Cond.selects "PlaceMoves" ⟨"PlaceMoves", "loadsHoldAt", "(II)Z"⟩ ⟨"PlaceMoves", "loadsHoldAt", "(II)Z"⟩ ∈ WG := wg (i := 9) (by decide +kernel) rfl
theorem ws_10 : Cond.selects "PlaceMoves" ⟨"PlaceMoves", "weighAt", "(I)V"⟩ ⟨"PlaceMoves", "weighAt", "(I)V"⟩ ∈ WG := wg (i := 10) (by decide +kernel) rfl
theorem ws_11 : Cond.selects "PlaceMoves" ⟨"PlaceMoves", "weightOf", "(I)I"⟩ ⟨"PlaceMoves", "weightOf", "(I)I"⟩ ∈ WG := wg (i := 11) (by decide +kernel) rfl
theorem ws_12 : Cond.selects "PlaceMoves" ⟨"PlaceMoves", "isWithin", "(III)Z"⟩ ⟨"PlaceMoves", "isWithin", "(III)Z"⟩ ∈ WG := wg (i := 12) (by decide +kernel) rfl
theorem ws_13 : Cond.selects "PlaceMoves" ⟨"PlaceMoves", "standsSince", "(II)I"⟩ ⟨"PlaceMoves", "standsSince", "(II)I"⟩ ∈ WG := wg (i := 13) (by decide +kernel) rfl
theorem ws_14 : Cond.selects "PlaceMoves" ⟨"PlaceMoves", "fits", "(II)Z"⟩ ⟨"PlaceMoves", "fits", "(II)Z"⟩ ∈ WG := wg (i := 14) (by decide +kernel) rfl
theorem ws_15 : Cond.selects "PlaceMoves" ⟨"PlaceMoves", "fittingDoors", "(I)J"⟩ ⟨"PlaceMoves", "fittingDoors", "(I)J"⟩ ∈ WG := wg (i := 15) (by decide +kernel) rfl
theorem ws_16 : Cond.selects "PlaceMoves" ⟨"PlaceMoves", "doorsBetween", "(IIJ)I"⟩ ⟨"PlaceMoves", "doorsBetween", "(IIJ)I"⟩ ∈ WG := wg (i := 16) (by decide +kernel) rfl
theorem ws_17 : Cond.selects "PlaceMovesModel" ⟨"PlaceMovesModel", "isPlace", "(I)Z"⟩ ⟨"PlaceMovesModel", "isPlace", "(I)Z"⟩ ∈ WG := wg (i := 17) (by decide +kernel) rfl
theorem ws_18 : Cond.selects "PlaceMovesModel" ⟨"PlaceMovesModel", "goes", "(ZZZ)Z"⟩ ⟨"PlaceMovesModel", "goes", "(ZZZ)Z"⟩ ∈ WG := wg (i := 18) (by decide +kernel) rfl
theorem ws_19 : Cond.selects "PlaceMovesModel" ⟨"PlaceMovesModel", "isObject", "(I)Z"⟩ ⟨"PlaceMovesModel", "isObject", "(I)Z"⟩ ∈ WG := wg (i := 19) (by decide +kernel) rfl
theorem ws_20 : Cond.selects "PlaceMovesModel" ⟨"PlaceMovesModel", "mayOpen", "(III)Z"⟩ ⟨"PlaceMovesModel", "mayOpen", "(III)Z"⟩ ∈ WG := wg (i := 20) (by decide +kernel) rfl
theorem ws_21 : Cond.selects "PlaceMovesModel" ⟨"PlaceMovesModel", "at", "(II)I"⟩ ⟨"PlaceMovesModel", "at", "(II)I"⟩ ∈ WG := wg (i := 21) (by decide +kernel) rfl
theorem ws_22 : Cond.selects "PlaceMovesModel" ⟨"PlaceMovesModel", "rowAt", "(II)I"⟩ ⟨"PlaceMovesModel", "rowAt", "(II)I"⟩ ∈ WG := wg (i := 22) (by decide +kernel) rfl
theorem ws_23 : Cond.selects "PlaceMovesModel" ⟨"PlaceMovesModel", "barred", "(III)Z"⟩ ⟨"PlaceMovesModel", "barred", "(III)Z"⟩ ∈ WG := wg (i := 23) (by decide +kernel) rfl
theorem ws_24 : Cond.selects "PlaceMovesModel" ⟨"PlaceMovesModel", "lies", "(II)Z"⟩ ⟨"PlaceMovesModel", "lies", "(II)Z"⟩ ∈ WG := wg (i := 24) (by decide +kernel) rfl
theorem ws_25 : Cond.selects "PlaceMovesModel" ⟨"PlaceMovesModel", "mayCome", "(III)Z"⟩ ⟨"PlaceMovesModel", "mayCome", "(III)Z"⟩ ∈ WG := wg (i := 25) (by decide +kernel) rfl
theorem ws_26 : Cond.selects "PlaceMovesModel" ⟨"PlaceMovesModel", "bears", "(II)Z"⟩ ⟨"PlaceMovesModel", "bears", "(II)Z"⟩ ∈ WG := wg (i := 26) (by decide +kernel) rfl
theorem ws_27 : Cond.selects "PlaceMovesModel" ⟨"PlaceMovesModel", "weight", "(II)I"⟩ ⟨"PlaceMovesModel", "weight", "(II)I"⟩ ∈ WG := wg (i := 27) (by decide +kernel) rfl
theorem ws_28 : Cond.selects "PlaceMovesModel" ⟨"PlaceMovesModel", "isPlanned", "(III)Z"⟩ ⟨"PlaceMovesModel", "isPlanned", "(III)Z"⟩ ∈ WG := wg (i := 28) (by decide +kernel) rfl
theorem ws_29 : Cond.selects "PlaceMovesModel" ⟨"PlaceMovesModel", "row", "(IIII)V"⟩ ⟨"PlaceMovesModel", "row", "(IIII)V"⟩ ∈ WG := wg (i := 29) (by decide +kernel) rfl
theorem ws_30 : Cond.selects "PlaceMovesModel" ⟨"PlaceMovesModel", "holds", "(III)Z"⟩ ⟨"PlaceMovesModel", "holds", "(III)Z"⟩ ∈ WG := wg (i := 30) (by decide +kernel) rfl
theorem ws_31 : Cond.selects "PlaceMovesModel" ⟨"PlaceMovesModel", "fits", "(II)Z"⟩ ⟨"PlaceMovesModel", "fits", "(II)Z"⟩ ∈ WG := wg (i := 31) (by decide +kernel) rfl
theorem ws_32 : Cond.selects "PlaceMovesModel" ⟨"PlaceMovesModel", "size", "(II)I"⟩ ⟨"PlaceMovesModel", "size", "(II)I"⟩ ∈ WG := wg (i := 32) (by decide +kernel) rfl
theorem ws_33 : Cond.selects "PlaceMovesModel" ⟨"PlaceMovesModel", "through", "(II)Z"⟩ ⟨"PlaceMovesModel", "through", "(II)Z"⟩ ∈ WG := wg (i := 33) (by decide +kernel) rfl
theorem w_0 : Cond.initialized "PlaceMovesLaw" ∈ WG := wg (i := 34) (by decide +kernel) rfl
theorem w_1 : Cond.initialized "PlaceMoves" ∈ WG := wg (i := 35) (by decide +kernel) rfl
theorem w_2 : Cond.initialized "PlaceMoves$Places" ∈ WG := wg (i := 36) (by decide +kernel) rfl
theorem w_3 : Cond.initialized "PlaceMoves$Things" ∈ WG := wg (i := 37) (by decide +kernel) rfl
theorem w_4 : Cond.initialized "PlaceMoves$Rows" ∈ WG := wg (i := 38) (by decide +kernel) rfl
theorem w_5 : Cond.initialized "PlaceMoves$Doors" ∈ WG := wg (i := 39) (by decide +kernel) rfl
theorem w_6 : Cond.initialized "PlaceMoves$Plans" ∈ WG := wg (i := 40) (by decide +kernel) rfl
theorem w_7 : Cond.initialized "PlaceMoves$QuietTimes" ∈ WG := wg (i := 41) (by decide +kernel) rfl
theorem w_8 : Cond.initialized "PlaceMovesModel" ∈ WG := wg (i := 42) (by decide +kernel) rfl
theorem w_9 : Cond.initialized "java/lang/Throwable" ∈ WG := wg (i := 43) (by decide +kernel) rfl
theorem w_10 : Cond.initialized "java/lang/Exception" ∈ WG := wg (i := 44) (by decide +kernel) rfl
theorem w_11 : Cond.initialized "java/lang/RuntimeException" ∈ WG := wg (i := 45) (by decide +kernel) rfl
theorem w_12 : Cond.initialized "java/util/NoSuchElementException" ∈ WG := wg (i := 46) (by decide +kernel) rfl
theorem w_13 : Cond.initialized "java/lang/IllegalArgumentException" ∈ WG := wg (i := 47) (by decide +kernel) rfl
theorem w_14 : Cond.initialized "java/lang/IllegalStateException" ∈ WG := wg (i := 48) (by decide +kernel) rfl
theorem w_15 : Cond.initialized "java/lang/Math" ∈ WG := wg (i := 49) (by decide +kernel) rfl
theorem w_16 : Cond.classLink "PlaceMovesLaw" 8 "PlaceMoves" ∈ WG := wg (i := 50) (by decide +kernel) rfl
theorem w_17 : Cond.instantiable "PlaceMoves" 9 ∈ WG := wg (i := 51) (by decide +kernel) rfl
theorem w_18 : Cond.methodLink "PlaceMovesLaw" 78 ⟨"PlaceMoves", "<init>", "()V"⟩ ∈ WG := wg (i := 52) (by decide +kernel) rfl
theorem w_19 : Cond.instanceMethod ⟨"PlaceMoves", "<init>", "()V"⟩ ∈ WG := wg (i := 53) (by decide +kernel) rfl
set_option maxRecDepth 100000 in
theorem w_20 : Cond.code ⟨"PlaceMoves", "<init>", "()V"⟩ prog_1_method_1_code 1 none ∈ WG := wg (i := 54) rfl rfl
theorem w_21 : Cond.methodLink "PlaceMoves" 1 ⟨"java/lang/Object", "<init>", "()V"⟩ ∈ WG := wg (i := 55) (by decide +kernel) rfl
theorem w_22 : Cond.instanceMethod ⟨"java/lang/Object", "<init>", "()V"⟩ ∈ WG := wg (i := 56) (by decide +kernel) rfl
set_option maxRecDepth 100000 in
theorem w_23 : Cond.code ⟨"java/lang/Object", "<init>", "()V"⟩ object_method_1_code 1 none ∈ WG := wg (i := 57) rfl rfl
theorem w_24 : Cond.classLink "PlaceMoves" 7 "PlaceMoves$Places" ∈ WG := wg (i := 58) (by decide +kernel) rfl
theorem w_25 : Cond.instantiable "PlaceMoves$Places" 3 ∈ WG := wg (i := 59) (by decide +kernel) rfl
theorem w_27 : Cond.instanceMethod ⟨"PlaceMoves$Places", "<init>", "()V"⟩ ∈ WG := wg (i := 61) (by decide +kernel) rfl
set_option maxRecDepth 100000 in
theorem w_28 : Cond.code ⟨"PlaceMoves$Places", "<init>", "()V"⟩ prog_3_method_1_code 1 none ∈ WG := wg (i := 62) rfl rfl
theorem w_29 : Cond.methodLink "PlaceMoves$Places" 3 ⟨"java/lang/Object", "<init>", "()V"⟩ ∈ WG := wg (i := 63) (by decide +kernel) rfl
theorem w_30 : Cond.fieldLink "PlaceMoves$Places" 9 "PlaceMoves$Places" "load" "[I" ∈ WG := wg (i := 64) (by decide +kernel) rfl
theorem w_32 : Cond.fieldLink "PlaceMoves$Places" 15 "PlaceMoves$Places" "around" "[I" ∈ WG := wg (i := 66) (by decide +kernel) rfl
theorem w_33 : Cond.fieldLink "PlaceMoves$Places" 18 "PlaceMoves$Places" "size" "I" ∈ WG := wg (i := 67) (by decide +kernel) rfl
theorem w_35 : Cond.laysFinal "PlaceMoves$Places" "PlaceMoves$Places" "load" "[I" ∈ WG := wg (i := 69) (by decide +kernel) rfl
theorem w_37 : Cond.laysFinal "PlaceMoves$Places" "PlaceMoves$Places" "around" "[I" ∈ WG := wg (i := 71) (by decide +kernel) rfl
theorem w_39 : Cond.lays "PlaceMoves$Places" "PlaceMoves$Places" "size" "I" ∈ WG := wg (i := 73) (by decide +kernel) rfl
theorem w_41 : Cond.superclass "PlaceMoves$Places" "java/lang/Object" ∈ WG := wg (i := 75) (by decide +kernel) rfl
theorem w_42 : Cond.arrayClass FieldType.int ∈ WG := wg (i := 76) (by decide +kernel) rfl
theorem w_43 : Cond.classLink "PlaceMoves" 16 "PlaceMoves$Things" ∈ WG := wg (i := 77) (by decide +kernel) rfl
theorem w_44 : Cond.instantiable "PlaceMoves$Things" 7 ∈ WG := wg (i := 78) (by decide +kernel) rfl
theorem w_46 : Cond.instanceMethod ⟨"PlaceMoves$Things", "<init>", "()V"⟩ ∈ WG := wg (i := 80) (by decide +kernel) rfl
set_option maxRecDepth 100000 in
theorem w_47 : Cond.code ⟨"PlaceMoves$Things", "<init>", "()V"⟩ prog_7_method_1_code 1 none ∈ WG := wg (i := 81) rfl rfl
theorem w_48 : Cond.methodLink "PlaceMoves$Things" 3 ⟨"java/lang/Object", "<init>", "()V"⟩ ∈ WG := wg (i := 82) (by decide +kernel) rfl
theorem w_49 : Cond.fieldLink "PlaceMoves$Things" 9 "PlaceMoves$Things" "least" "[I" ∈ WG := wg (i := 83) (by decide +kernel) rfl
theorem w_51 : Cond.fieldLink "PlaceMoves$Things" 15 "PlaceMoves$Things" "middle" "[I" ∈ WG := wg (i := 85) (by decide +kernel) rfl
theorem w_53 : Cond.fieldLink "PlaceMoves$Things" 18 "PlaceMoves$Things" "greatest" "[I" ∈ WG := wg (i := 87) (by decide +kernel) rfl
theorem w_55 : Cond.fieldLink "PlaceMoves$Things" 21 "PlaceMoves$Things" "grams" "[I" ∈ WG := wg (i := 89) (by decide +kernel) rfl
theorem w_57 : Cond.fieldLink "PlaceMoves$Things" 24 "PlaceMoves$Things" "keysNeeded" "[I" ∈ WG := wg (i := 91) (by decide +kernel) rfl
theorem w_59 : Cond.fieldLink "PlaceMoves$Things" 27 "PlaceMoves$Things" "isBox" "[Z" ∈ WG := wg (i := 93) (by decide +kernel) rfl
theorem w_61 : Cond.fieldLink "PlaceMoves$Things" 31 "PlaceMoves$Things" "size" "I" ∈ WG := wg (i := 95) (by decide +kernel) rfl
theorem w_63 : Cond.laysFinal "PlaceMoves$Things" "PlaceMoves$Things" "least" "[I" ∈ WG := wg (i := 97) (by decide +kernel) rfl
theorem w_65 : Cond.laysFinal "PlaceMoves$Things" "PlaceMoves$Things" "middle" "[I" ∈ WG := wg (i := 99) (by decide +kernel) rfl
theorem w_67 : Cond.laysFinal "PlaceMoves$Things" "PlaceMoves$Things" "greatest" "[I" ∈ WG := wg (i := 101) (by decide +kernel) rfl
theorem w_69 : Cond.laysFinal "PlaceMoves$Things" "PlaceMoves$Things" "grams" "[I" ∈ WG := wg (i := 103) (by decide +kernel) rfl
theorem w_71 : Cond.laysFinal "PlaceMoves$Things" "PlaceMoves$Things" "keysNeeded" "[I" ∈ WG := wg (i := 105) (by decide +kernel) rfl
theorem w_73 : Cond.laysFinal "PlaceMoves$Things" "PlaceMoves$Things" "isBox" "[Z" ∈ WG := wg (i := 107) (by decide +kernel) rfl
theorem w_75 : Cond.lays "PlaceMoves$Things" "PlaceMoves$Things" "size" "I" ∈ WG := wg (i := 109) (by decide +kernel) rfl
theorem w_77 : Cond.superclass "PlaceMoves$Things" "java/lang/Object" ∈ WG := wg (i := 111) (by decide +kernel) rfl
theorem w_78 : Cond.arrayClass FieldType.boolean ∈ WG := wg (i := 112) (by decide +kernel) rfl
theorem w_79 : Cond.classLink "PlaceMoves" 23 "PlaceMoves$Rows" ∈ WG := wg (i := 113) (by decide +kernel) rfl
theorem w_80 : Cond.instantiable "PlaceMoves$Rows" 5 ∈ WG := wg (i := 114) (by decide +kernel) rfl
theorem w_82 : Cond.instanceMethod ⟨"PlaceMoves$Rows", "<init>", "()V"⟩ ∈ WG := wg (i := 116) (by decide +kernel) rfl
set_option maxRecDepth 100000 in
theorem w_83 : Cond.code ⟨"PlaceMoves$Rows", "<init>", "()V"⟩ prog_6_method_1_code 1 none ∈ WG := wg (i := 117) rfl rfl
theorem w_84 : Cond.methodLink "PlaceMoves$Rows" 3 ⟨"java/lang/Object", "<init>", "()V"⟩ ∈ WG := wg (i := 118) (by decide +kernel) rfl
theorem w_85 : Cond.fieldLink "PlaceMoves$Rows" 9 "PlaceMoves$Rows" "size" "[I" ∈ WG := wg (i := 119) (by decide +kernel) rfl
theorem w_87 : Cond.fieldLink "PlaceMoves$Rows" 15 "PlaceMoves$Rows" "hour" "[I" ∈ WG := wg (i := 121) (by decide +kernel) rfl
theorem w_89 : Cond.fieldLink "PlaceMoves$Rows" 18 "PlaceMoves$Rows" "kind" "[I" ∈ WG := wg (i := 123) (by decide +kernel) rfl
theorem w_91 : Cond.fieldLink "PlaceMoves$Rows" 21 "PlaceMoves$Rows" "target" "[I" ∈ WG := wg (i := 125) (by decide +kernel) rfl
theorem w_93 : Cond.fieldLink "PlaceMoves$Rows" 24 "PlaceMoves$Rows" "total" "I" ∈ WG := wg (i := 127) (by decide +kernel) rfl
theorem w_95 : Cond.laysFinal "PlaceMoves$Rows" "PlaceMoves$Rows" "size" "[I" ∈ WG := wg (i := 129) (by decide +kernel) rfl
theorem w_97 : Cond.laysFinal "PlaceMoves$Rows" "PlaceMoves$Rows" "hour" "[I" ∈ WG := wg (i := 131) (by decide +kernel) rfl
theorem w_99 : Cond.laysFinal "PlaceMoves$Rows" "PlaceMoves$Rows" "kind" "[I" ∈ WG := wg (i := 133) (by decide +kernel) rfl
theorem w_101 : Cond.laysFinal "PlaceMoves$Rows" "PlaceMoves$Rows" "target" "[I" ∈ WG := wg (i := 135) (by decide +kernel) rfl
theorem w_103 : Cond.lays "PlaceMoves$Rows" "PlaceMoves$Rows" "total" "I" ∈ WG := wg (i := 137) (by decide +kernel) rfl
theorem w_105 : Cond.superclass "PlaceMoves$Rows" "java/lang/Object" ∈ WG := wg (i := 139) (by decide +kernel) rfl
theorem w_106 : Cond.classLink "PlaceMoves" 30 "PlaceMoves$Doors" ∈ WG := wg (i := 140) (by decide +kernel) rfl
theorem w_107 : Cond.instantiable "PlaceMoves$Doors" 5 ∈ WG := wg (i := 141) (by decide +kernel) rfl
theorem w_109 : Cond.instanceMethod ⟨"PlaceMoves$Doors", "<init>", "()V"⟩ ∈ WG := wg (i := 143) (by decide +kernel) rfl
set_option maxRecDepth 100000 in
theorem w_110 : Cond.code ⟨"PlaceMoves$Doors", "<init>", "()V"⟩ prog_2_method_1_code 1 none ∈ WG := wg (i := 144) rfl rfl
theorem w_111 : Cond.methodLink "PlaceMoves$Doors" 3 ⟨"java/lang/Object", "<init>", "()V"⟩ ∈ WG := wg (i := 145) (by decide +kernel) rfl
theorem w_112 : Cond.fieldLink "PlaceMoves$Doors" 9 "PlaceMoves$Doors" "one" "[I" ∈ WG := wg (i := 146) (by decide +kernel) rfl
theorem w_113 : Cond.fieldLink "PlaceMoves$Doors" 15 "PlaceMoves$Doors" "other" "[I" ∈ WG := wg (i := 147) (by decide +kernel) rfl
theorem w_114 : Cond.fieldLink "PlaceMoves$Doors" 18 "PlaceMoves$Doors" "wide" "[I" ∈ WG := wg (i := 148) (by decide +kernel) rfl
theorem w_115 : Cond.fieldLink "PlaceMoves$Doors" 21 "PlaceMoves$Doors" "narrow" "[I" ∈ WG := wg (i := 149) (by decide +kernel) rfl
theorem w_116 : Cond.fieldLink "PlaceMoves$Doors" 24 "PlaceMoves$Doors" "size" "I" ∈ WG := wg (i := 150) (by decide +kernel) rfl
theorem w_118 : Cond.laysFinal "PlaceMoves$Doors" "PlaceMoves$Doors" "one" "[I" ∈ WG := wg (i := 152) (by decide +kernel) rfl
theorem w_120 : Cond.laysFinal "PlaceMoves$Doors" "PlaceMoves$Doors" "other" "[I" ∈ WG := wg (i := 154) (by decide +kernel) rfl
theorem w_122 : Cond.laysFinal "PlaceMoves$Doors" "PlaceMoves$Doors" "wide" "[I" ∈ WG := wg (i := 156) (by decide +kernel) rfl
theorem w_124 : Cond.laysFinal "PlaceMoves$Doors" "PlaceMoves$Doors" "narrow" "[I" ∈ WG := wg (i := 158) (by decide +kernel) rfl
theorem w_126 : Cond.lays "PlaceMoves$Doors" "PlaceMoves$Doors" "size" "I" ∈ WG := wg (i := 160) (by decide +kernel) rfl
theorem w_128 : Cond.superclass "PlaceMoves$Doors" "java/lang/Object" ∈ WG := wg (i := 162) (by decide +kernel) rfl
theorem w_129 : Cond.classLink "PlaceMoves" 37 "PlaceMoves$Plans" ∈ WG := wg (i := 163) (by decide +kernel) rfl
theorem w_130 : Cond.instantiable "PlaceMoves$Plans" 5 ∈ WG := wg (i := 164) (by decide +kernel) rfl
theorem w_132 : Cond.instanceMethod ⟨"PlaceMoves$Plans", "<init>", "()V"⟩ ∈ WG := wg (i := 166) (by decide +kernel) rfl
set_option maxRecDepth 100000 in
theorem w_133 : Cond.code ⟨"PlaceMoves$Plans", "<init>", "()V"⟩ prog_4_method_1_code 1 none ∈ WG := wg (i := 167) rfl rfl
theorem w_134 : Cond.methodLink "PlaceMoves$Plans" 3 ⟨"java/lang/Object", "<init>", "()V"⟩ ∈ WG := wg (i := 168) (by decide +kernel) rfl
theorem w_135 : Cond.fieldLink "PlaceMoves$Plans" 9 "PlaceMoves$Plans" "object" "[I" ∈ WG := wg (i := 169) (by decide +kernel) rfl
theorem w_137 : Cond.fieldLink "PlaceMoves$Plans" 15 "PlaceMoves$Plans" "place" "[I" ∈ WG := wg (i := 171) (by decide +kernel) rfl
theorem w_139 : Cond.fieldLink "PlaceMoves$Plans" 18 "PlaceMoves$Plans" "from" "[I" ∈ WG := wg (i := 173) (by decide +kernel) rfl
theorem w_141 : Cond.fieldLink "PlaceMoves$Plans" 21 "PlaceMoves$Plans" "to" "[I" ∈ WG := wg (i := 175) (by decide +kernel) rfl
theorem w_142 : Cond.fieldLink "PlaceMoves$Plans" 24 "PlaceMoves$Plans" "size" "I" ∈ WG := wg (i := 176) (by decide +kernel) rfl
theorem w_144 : Cond.laysFinal "PlaceMoves$Plans" "PlaceMoves$Plans" "object" "[I" ∈ WG := wg (i := 178) (by decide +kernel) rfl
theorem w_146 : Cond.laysFinal "PlaceMoves$Plans" "PlaceMoves$Plans" "place" "[I" ∈ WG := wg (i := 180) (by decide +kernel) rfl
theorem w_148 : Cond.laysFinal "PlaceMoves$Plans" "PlaceMoves$Plans" "from" "[I" ∈ WG := wg (i := 182) (by decide +kernel) rfl
theorem w_150 : Cond.laysFinal "PlaceMoves$Plans" "PlaceMoves$Plans" "to" "[I" ∈ WG := wg (i := 184) (by decide +kernel) rfl
theorem w_152 : Cond.lays "PlaceMoves$Plans" "PlaceMoves$Plans" "size" "I" ∈ WG := wg (i := 186) (by decide +kernel) rfl
theorem w_154 : Cond.superclass "PlaceMoves$Plans" "java/lang/Object" ∈ WG := wg (i := 188) (by decide +kernel) rfl
theorem w_155 : Cond.classLink "PlaceMoves" 44 "PlaceMoves$QuietTimes" ∈ WG := wg (i := 189) (by decide +kernel) rfl
theorem w_156 : Cond.instantiable "PlaceMoves$QuietTimes" 4 ∈ WG := wg (i := 190) (by decide +kernel) rfl
theorem w_158 : Cond.instanceMethod ⟨"PlaceMoves$QuietTimes", "<init>", "()V"⟩ ∈ WG := wg (i := 192) (by decide +kernel) rfl
set_option maxRecDepth 100000 in
theorem w_159 : Cond.code ⟨"PlaceMoves$QuietTimes", "<init>", "()V"⟩ prog_5_method_1_code 1 none ∈ WG := wg (i := 193) rfl rfl
theorem w_160 : Cond.methodLink "PlaceMoves$QuietTimes" 3 ⟨"java/lang/Object", "<init>", "()V"⟩ ∈ WG := wg (i := 194) (by decide +kernel) rfl
theorem w_161 : Cond.fieldLink "PlaceMoves$QuietTimes" 9 "PlaceMoves$QuietTimes" "place" "[I" ∈ WG := wg (i := 195) (by decide +kernel) rfl
theorem w_163 : Cond.fieldLink "PlaceMoves$QuietTimes" 15 "PlaceMoves$QuietTimes" "from" "[I" ∈ WG := wg (i := 197) (by decide +kernel) rfl
theorem w_164 : Cond.fieldLink "PlaceMoves$QuietTimes" 18 "PlaceMoves$QuietTimes" "to" "[I" ∈ WG := wg (i := 198) (by decide +kernel) rfl
theorem w_165 : Cond.fieldLink "PlaceMoves$QuietTimes" 21 "PlaceMoves$QuietTimes" "size" "I" ∈ WG := wg (i := 199) (by decide +kernel) rfl
theorem w_167 : Cond.laysFinal "PlaceMoves$QuietTimes" "PlaceMoves$QuietTimes" "place" "[I" ∈ WG := wg (i := 201) (by decide +kernel) rfl
theorem w_169 : Cond.laysFinal "PlaceMoves$QuietTimes" "PlaceMoves$QuietTimes" "from" "[I" ∈ WG := wg (i := 203) (by decide +kernel) rfl
theorem w_171 : Cond.laysFinal "PlaceMoves$QuietTimes" "PlaceMoves$QuietTimes" "to" "[I" ∈ WG := wg (i := 205) (by decide +kernel) rfl
theorem w_173 : Cond.lays "PlaceMoves$QuietTimes" "PlaceMoves$QuietTimes" "size" "I" ∈ WG := wg (i := 207) (by decide +kernel) rfl
theorem w_175 : Cond.superclass "PlaceMoves$QuietTimes" "java/lang/Object" ∈ WG := wg (i := 209) (by decide +kernel) rfl
theorem w_176 : Cond.fieldLink "PlaceMoves" 10 "PlaceMoves" "places" "LPlaceMoves$Places;" ∈ WG := wg (i := 210) (by decide +kernel) rfl
theorem w_177 : Cond.fieldLink "PlaceMoves" 19 "PlaceMoves" "things" "LPlaceMoves$Things;" ∈ WG := wg (i := 211) (by decide +kernel) rfl
theorem w_178 : Cond.fieldLink "PlaceMoves" 26 "PlaceMoves" "rows" "LPlaceMoves$Rows;" ∈ WG := wg (i := 212) (by decide +kernel) rfl
theorem w_179 : Cond.fieldLink "PlaceMoves" 33 "PlaceMoves" "doors" "LPlaceMoves$Doors;" ∈ WG := wg (i := 213) (by decide +kernel) rfl
theorem w_180 : Cond.fieldLink "PlaceMoves" 40 "PlaceMoves" "plans" "LPlaceMoves$Plans;" ∈ WG := wg (i := 214) (by decide +kernel) rfl
theorem w_181 : Cond.fieldLink "PlaceMoves" 47 "PlaceMoves" "quietTimes" "LPlaceMoves$QuietTimes;" ∈ WG := wg (i := 215) (by decide +kernel) rfl
theorem w_182 : Cond.fieldLink "PlaceMoves" 51 "PlaceMoves" "hasKey" "[Z" ∈ WG := wg (i := 216) (by decide +kernel) rfl
theorem w_183 : Cond.fieldLink "PlaceMoves" 55 "PlaceMoves" "burdened" "[I" ∈ WG := wg (i := 217) (by decide +kernel) rfl
theorem w_184 : Cond.fieldLink "PlaceMoves" 59 "PlaceMoves" "present" "I" ∈ WG := wg (i := 218) (by decide +kernel) rfl
theorem w_185 : Cond.laysFinal "PlaceMoves" "PlaceMoves" "places" "LPlaceMoves$Places;" ∈ WG := wg (i := 219) (by decide +kernel) rfl
theorem w_187 : Cond.laysFinal "PlaceMoves" "PlaceMoves" "things" "LPlaceMoves$Things;" ∈ WG := wg (i := 221) (by decide +kernel) rfl
theorem w_189 : Cond.laysFinal "PlaceMoves" "PlaceMoves" "rows" "LPlaceMoves$Rows;" ∈ WG := wg (i := 223) (by decide +kernel) rfl
theorem w_191 : Cond.laysFinal "PlaceMoves" "PlaceMoves" "doors" "LPlaceMoves$Doors;" ∈ WG := wg (i := 225) (by decide +kernel) rfl
theorem w_193 : Cond.laysFinal "PlaceMoves" "PlaceMoves" "plans" "LPlaceMoves$Plans;" ∈ WG := wg (i := 227) (by decide +kernel) rfl
theorem w_195 : Cond.laysFinal "PlaceMoves" "PlaceMoves" "quietTimes" "LPlaceMoves$QuietTimes;" ∈ WG := wg (i := 229) (by decide +kernel) rfl
theorem w_197 : Cond.laysFinal "PlaceMoves" "PlaceMoves" "hasKey" "[Z" ∈ WG := wg (i := 231) (by decide +kernel) rfl
theorem w_199 : Cond.laysFinal "PlaceMoves" "PlaceMoves" "burdened" "[I" ∈ WG := wg (i := 233) (by decide +kernel) rfl
theorem w_201 : Cond.lays "PlaceMoves" "PlaceMoves" "present" "I" ∈ WG := wg (i := 235) (by decide +kernel) rfl
theorem w_203 : Cond.superclass "PlaceMoves" "java/lang/Object" ∈ WG := wg (i := 237) (by decide +kernel) rfl
theorem w_204 : Cond.methodLink "PlaceMovesLaw" 82 ⟨"PlaceMovesLaw", "place", "(LPlaceMoves;II[J)I"⟩ ∈ WG := wg (i := 238) (by decide +kernel) rfl
theorem w_205 : Cond.static ⟨"PlaceMovesLaw", "place", "(LPlaceMoves;II[J)I"⟩ ∈ WG := wg (i := 239) (by decide +kernel) rfl
theorem w_207 : Cond.classLink "PlaceMovesLaw" 13 "java/util/NoSuchElementException" ∈ WG := wg (i := 241) (by decide +kernel) rfl
theorem w_208 : Cond.classLink "PlaceMovesLaw" 15 "java/lang/IllegalArgumentException" ∈ WG := wg (i := 242) (by decide +kernel) rfl
theorem w_209 : Cond.classLink "PlaceMovesLaw" 17 "java/lang/IllegalStateException" ∈ WG := wg (i := 243) (by decide +kernel) rfl
theorem w_210 : Cond.methodLink "PlaceMovesLaw" 7 ⟨"PlaceMoves", "place", "(II)I"⟩ ∈ WG := wg (i := 244) (by decide +kernel) rfl
theorem w_211 : Cond.instanceMethod ⟨"PlaceMoves", "place", "(II)I"⟩ ∈ WG := wg (i := 245) (by decide +kernel) rfl
theorem w_212 : Cond.selects "PlaceMoves" ⟨"PlaceMoves", "place", "(II)I"⟩ ⟨"PlaceMoves", "place", "(II)I"⟩ ∈ WG := wg (i := 246) (by decide +kernel) rfl
set_option maxRecDepth 100000 in
theorem w_213 : Cond.code ⟨"PlaceMoves", "place", "(II)I"⟩ prog_1_method_2_code 3 (some FieldType.int) ∈ WG := wg (i := 247) rfl rfl
theorem w_214 : Cond.methodLink "PlaceMoves" 63 ⟨"PlaceMoves", "needPlace", "(I)V"⟩ ∈ WG := wg (i := 248) (by decide +kernel) rfl
theorem w_216 : Cond.instanceMethod ⟨"PlaceMoves", "needPlace", "(I)V"⟩ ∈ WG := wg (i := 250) (by decide +kernel) rfl
set_option maxRecDepth 100000 in
theorem w_217 : Cond.code ⟨"PlaceMoves", "needPlace", "(I)V"⟩ prog_1_method_20_code 2 none ∈ WG := wg (i := 251) rfl rfl
theorem w_218 : Cond.methodLink "PlaceMoves" 132 ⟨"PlaceMoves", "needKnown", "(II)V"⟩ ∈ WG := wg (i := 252) (by decide +kernel) rfl
theorem w_219 : Cond.static ⟨"PlaceMoves", "needKnown", "(II)V"⟩ ∈ WG := wg (i := 253) (by decide +kernel) rfl
set_option maxRecDepth 100000 in
theorem w_220 : Cond.code ⟨"PlaceMoves", "needKnown", "(II)V"⟩ prog_1_method_23_code 2 none ∈ WG := wg (i := 254) rfl rfl
theorem w_221 : Cond.classLink "PlaceMoves" 191 "java/util/NoSuchElementException" ∈ WG := wg (i := 255) (by decide +kernel) rfl
theorem w_222 : Cond.instantiable "java/util/NoSuchElementException" 6 ∈ WG := wg (i := 256) (by decide +kernel) rfl
theorem w_230 : Cond.selects "java/util/NoSuchElementException" ⟨"java/lang/Throwable", "fillInStackTrace", "(I)Ljava/lang/Throwable;"⟩ ⟨"java/lang/Throwable", "fillInStackTrace", "(I)Ljava/lang/Throwable;"⟩ ∈ WG := wg (i := 264) (by decide +kernel) rfl
theorem w_231 : Cond.selects "java/util/NoSuchElementException" ⟨"java/lang/Throwable", "fillInStackTrace", "()Ljava/lang/Throwable;"⟩ ⟨"java/lang/Throwable", "fillInStackTrace", "()Ljava/lang/Throwable;"⟩ ∈ WG := wg (i := 265) (by decide +kernel) rfl
theorem w_232 : Cond.lays "java/util/NoSuchElementException" "java/lang/Throwable" "cause" "Ljava/lang/Throwable;" ∈ WG := wg (i := 266) (by decide +kernel) rfl
theorem w_233 : Cond.lays "java/lang/Throwable" "java/lang/Throwable" "cause" "Ljava/lang/Throwable;" ∈ WG := wg (i := 267) (by decide +kernel) rfl
theorem w_234 : Cond.lays "java/util/NoSuchElementException" "java/lang/Throwable" "stackTrace" "[Ljava/lang/StackTraceElement;" ∈ WG := wg (i := 268) (by decide +kernel) rfl
theorem w_235 : Cond.lays "java/lang/Throwable" "java/lang/Throwable" "stackTrace" "[Ljava/lang/StackTraceElement;" ∈ WG := wg (i := 269) (by decide +kernel) rfl
theorem w_236 : Cond.lays "java/util/NoSuchElementException" "java/lang/Throwable" "suppressedExceptions" "Ljava/util/List;" ∈ WG := wg (i := 270) (by decide +kernel) rfl
theorem w_237 : Cond.lays "java/lang/Throwable" "java/lang/Throwable" "suppressedExceptions" "Ljava/util/List;" ∈ WG := wg (i := 271) (by decide +kernel) rfl
theorem w_238 : Cond.lays "java/util/NoSuchElementException" "java/lang/Throwable" "detailMessage" "Ljava/lang/String;" ∈ WG := wg (i := 272) (by decide +kernel) rfl
theorem w_239 : Cond.lays "java/lang/Throwable" "java/lang/Throwable" "detailMessage" "Ljava/lang/String;" ∈ WG := wg (i := 273) (by decide +kernel) rfl
theorem w_240 : Cond.lays "java/util/NoSuchElementException" "java/lang/Throwable" "backtrace" "Ljava/lang/Object;" ∈ WG := wg (i := 274) (by decide +kernel) rfl
theorem w_241 : Cond.lays "java/lang/Throwable" "java/lang/Throwable" "backtrace" "Ljava/lang/Object;" ∈ WG := wg (i := 275) (by decide +kernel) rfl
theorem w_242 : Cond.fieldLink "java/lang/Throwable" 198 "java/lang/Throwable" "backtrace" "Ljava/lang/Object;" ∈ WG := wg (i := 276) (by decide +kernel) rfl
theorem w_243 : Cond.superclass "java/lang/Throwable" "java/lang/Object" ∈ WG := wg (i := 277) (by decide +kernel) rfl
theorem w_244 : Cond.instanceMethod ⟨"java/lang/Throwable", "<init>", "()V"⟩ ∈ WG := wg (i := 278) (by decide +kernel) rfl
set_option maxRecDepth 100000 in
theorem w_245 : Cond.code ⟨"java/lang/Throwable", "<init>", "()V"⟩ prog_16_method_1_code 1 none ∈ WG := wg (i := 279) rfl rfl
theorem w_246 : Cond.methodLink "java/lang/Throwable" 1 ⟨"java/lang/Object", "<init>", "()V"⟩ ∈ WG := wg (i := 280) (by decide +kernel) rfl
theorem w_247 : Cond.fieldLink "java/lang/Throwable" 13 "java/lang/Throwable" "UNASSIGNED_STACK" "[Ljava/lang/StackTraceElement;" ∈ WG := wg (i := 281) (by decide +kernel) rfl
theorem w_249 : Cond.fieldLink "java/lang/Throwable" 20 "java/lang/Throwable" "SUPPRESSED_SENTINEL" "Ljava/util/List;" ∈ WG := wg (i := 283) (by decide +kernel) rfl
theorem w_251 : Cond.methodLink "java/lang/Throwable" 27 ⟨"java/lang/Throwable", "fillInStackTrace", "()Ljava/lang/Throwable;"⟩ ∈ WG := wg (i := 285) (by decide +kernel) rfl
theorem w_252 : Cond.instanceMethod ⟨"java/lang/Throwable", "fillInStackTrace", "()Ljava/lang/Throwable;"⟩ ∈ WG := wg (i := 286) (by decide +kernel) rfl
theorem w_254 : Cond.selects "java/lang/IllegalArgumentException" ⟨"java/lang/Throwable", "fillInStackTrace", "()Ljava/lang/Throwable;"⟩ ⟨"java/lang/Throwable", "fillInStackTrace", "()Ljava/lang/Throwable;"⟩ ∈ WG := wg (i := 288) (by decide +kernel) rfl
theorem w_255 : Cond.selects "java/lang/IllegalStateException" ⟨"java/lang/Throwable", "fillInStackTrace", "()Ljava/lang/Throwable;"⟩ ⟨"java/lang/Throwable", "fillInStackTrace", "()Ljava/lang/Throwable;"⟩ ∈ WG := wg (i := 289) (by decide +kernel) rfl
set_option maxRecDepth 100000 in
theorem w_256 : Cond.codeSync ⟨"java/lang/Throwable", "fillInStackTrace", "()Ljava/lang/Throwable;"⟩ prog_16_method_18_code 1 (some (FieldType.object "java/lang/Throwable")) ∈ WG := wg (i := 290) rfl rfl
theorem w_257 : Cond.methodLink "java/lang/Throwable" 202 ⟨"java/lang/Throwable", "fillInStackTrace", "(I)Ljava/lang/Throwable;"⟩ ∈ WG := wg (i := 291) (by decide +kernel) rfl
theorem w_259 : Cond.instanceMethod ⟨"java/lang/Throwable", "fillInStackTrace", "(I)Ljava/lang/Throwable;"⟩ ∈ WG := wg (i := 293) (by decide +kernel) rfl
theorem w_260 : Cond.instantiable "java/lang/Throwable" 6 ∈ WG := wg (i := 294) (by decide +kernel) rfl
theorem w_261 : Cond.native ⟨"java/lang/Throwable", "fillInStackTrace", "(I)Ljava/lang/Throwable;"⟩ ∈ WG := wg (i := 295) (by decide +kernel) rfl
theorem w_263 : Cond.methodLink "PlaceMoves" 195 ⟨"java/util/NoSuchElementException", "<init>", "(Ljava/lang/String;)V"⟩ ∈ WG := wg (i := 297) (by decide +kernel) rfl
theorem w_264 : Cond.instanceMethod ⟨"java/util/NoSuchElementException", "<init>", "(Ljava/lang/String;)V"⟩ ∈ WG := wg (i := 298) (by decide +kernel) rfl
set_option maxRecDepth 100000 in
theorem w_265 : Cond.code ⟨"java/util/NoSuchElementException", "<init>", "(Ljava/lang/String;)V"⟩ prog_17_method_4_code 2 none ∈ WG := wg (i := 299) rfl rfl
theorem w_266 : Cond.methodLink "java/util/NoSuchElementException" 13 ⟨"java/lang/RuntimeException", "<init>", "(Ljava/lang/String;)V"⟩ ∈ WG := wg (i := 300) (by decide +kernel) rfl
theorem w_267 : Cond.instanceMethod ⟨"java/lang/RuntimeException", "<init>", "(Ljava/lang/String;)V"⟩ ∈ WG := wg (i := 301) (by decide +kernel) rfl
set_option maxRecDepth 100000 in
theorem w_268 : Cond.code ⟨"java/lang/RuntimeException", "<init>", "(Ljava/lang/String;)V"⟩ prog_14_method_2_code 2 none ∈ WG := wg (i := 302) rfl rfl
theorem w_269 : Cond.methodLink "java/lang/RuntimeException" 7 ⟨"java/lang/Exception", "<init>", "(Ljava/lang/String;)V"⟩ ∈ WG := wg (i := 303) (by decide +kernel) rfl
theorem w_270 : Cond.instanceMethod ⟨"java/lang/Exception", "<init>", "(Ljava/lang/String;)V"⟩ ∈ WG := wg (i := 304) (by decide +kernel) rfl
set_option maxRecDepth 100000 in
theorem w_271 : Cond.code ⟨"java/lang/Exception", "<init>", "(Ljava/lang/String;)V"⟩ prog_10_method_2_code 2 none ∈ WG := wg (i := 305) rfl rfl
theorem w_272 : Cond.methodLink "java/lang/Exception" 7 ⟨"java/lang/Throwable", "<init>", "(Ljava/lang/String;)V"⟩ ∈ WG := wg (i := 306) (by decide +kernel) rfl
theorem w_273 : Cond.instanceMethod ⟨"java/lang/Throwable", "<init>", "(Ljava/lang/String;)V"⟩ ∈ WG := wg (i := 307) (by decide +kernel) rfl
set_option maxRecDepth 100000 in
theorem w_274 : Cond.code ⟨"java/lang/Throwable", "<init>", "(Ljava/lang/String;)V"⟩ prog_16_method_2_code 2 none ∈ WG := wg (i := 308) rfl rfl
theorem w_275 : Cond.fieldLink "java/lang/Throwable" 198 "java/lang/Throwable" "backtrace" "Ljava/lang/Object;" ∈ WG := wg (i := 309) (by decide +kernel) rfl
theorem w_276 : Cond.fieldLink "java/lang/Throwable" 31 "java/lang/Throwable" "detailMessage" "Ljava/lang/String;" ∈ WG := wg (i := 310) (by decide +kernel) rfl
theorem w_277 : Cond.fieldLink "java/lang/Throwable" 7 "java/lang/Throwable" "cause" "Ljava/lang/Throwable;" ∈ WG := wg (i := 311) (by decide +kernel) rfl
theorem w_278 : Cond.fieldLink "java/lang/Throwable" 17 "java/lang/Throwable" "stackTrace" "[Ljava/lang/StackTraceElement;" ∈ WG := wg (i := 312) (by decide +kernel) rfl
theorem w_279 : Cond.fieldLink "java/lang/Throwable" 24 "java/lang/Throwable" "suppressedExceptions" "Ljava/util/List;" ∈ WG := wg (i := 313) (by decide +kernel) rfl
theorem w_284 : Cond.lays "java/util/NoSuchElementException" "java/lang/Throwable" "depth" "I" ∈ WG := wg (i := 318) (by decide +kernel) rfl
theorem w_287 : Cond.superclass "java/util/NoSuchElementException" "java/lang/RuntimeException" ∈ WG := wg (i := 321) (by decide +kernel) rfl
theorem w_288 : Cond.arrayClass FieldType.byte ∈ WG := wg (i := 322) (by decide +kernel) rfl
theorem w_289 : Cond.constant "PlaceMoves" 67 (1000000000) ∈ WG := wg (i := 323) (by decide +kernel) rfl
theorem w_290 : Cond.methodLink "PlaceMoves" 68 ⟨"PlaceMoves", "needRange", "(III)V"⟩ ∈ WG := wg (i := 324) (by decide +kernel) rfl
theorem w_291 : Cond.static ⟨"PlaceMoves", "needRange", "(III)V"⟩ ∈ WG := wg (i := 325) (by decide +kernel) rfl
set_option maxRecDepth 100000 in
theorem w_292 : Cond.code ⟨"PlaceMoves", "needRange", "(III)V"⟩ prog_1_method_24_code 3 none ∈ WG := wg (i := 326) rfl rfl
theorem w_293 : Cond.classLink "PlaceMoves" 144 "java/lang/IllegalArgumentException" ∈ WG := wg (i := 327) (by decide +kernel) rfl
theorem w_294 : Cond.instantiable "java/lang/IllegalArgumentException" 6 ∈ WG := wg (i := 328) (by decide +kernel) rfl
theorem w_296 : Cond.selects "java/lang/IllegalArgumentException" ⟨"java/lang/Throwable", "fillInStackTrace", "(I)Ljava/lang/Throwable;"⟩ ⟨"java/lang/Throwable", "fillInStackTrace", "(I)Ljava/lang/Throwable;"⟩ ∈ WG := wg (i := 330) (by decide +kernel) rfl
theorem w_297 : Cond.lays "java/lang/IllegalArgumentException" "java/lang/Throwable" "cause" "Ljava/lang/Throwable;" ∈ WG := wg (i := 331) (by decide +kernel) rfl
theorem w_298 : Cond.lays "java/lang/IllegalArgumentException" "java/lang/Throwable" "stackTrace" "[Ljava/lang/StackTraceElement;" ∈ WG := wg (i := 332) (by decide +kernel) rfl
theorem w_299 : Cond.lays "java/lang/IllegalArgumentException" "java/lang/Throwable" "suppressedExceptions" "Ljava/util/List;" ∈ WG := wg (i := 333) (by decide +kernel) rfl
theorem w_300 : Cond.lays "java/lang/IllegalArgumentException" "java/lang/Throwable" "detailMessage" "Ljava/lang/String;" ∈ WG := wg (i := 334) (by decide +kernel) rfl
theorem w_301 : Cond.lays "java/lang/IllegalArgumentException" "java/lang/Throwable" "backtrace" "Ljava/lang/Object;" ∈ WG := wg (i := 335) (by decide +kernel) rfl
theorem w_303 : Cond.methodLink "PlaceMoves" 148 ⟨"java/lang/IllegalArgumentException", "<init>", "(Ljava/lang/String;)V"⟩ ∈ WG := wg (i := 337) (by decide +kernel) rfl
theorem w_304 : Cond.instanceMethod ⟨"java/lang/IllegalArgumentException", "<init>", "(Ljava/lang/String;)V"⟩ ∈ WG := wg (i := 338) (by decide +kernel) rfl
set_option maxRecDepth 100000 in
theorem w_305 : Cond.code ⟨"java/lang/IllegalArgumentException", "<init>", "(Ljava/lang/String;)V"⟩ prog_11_method_2_code 2 none ∈ WG := wg (i := 339) rfl rfl
theorem w_306 : Cond.methodLink "java/lang/IllegalArgumentException" 7 ⟨"java/lang/RuntimeException", "<init>", "(Ljava/lang/String;)V"⟩ ∈ WG := wg (i := 340) (by decide +kernel) rfl
theorem w_307 : Cond.lays "java/lang/IllegalArgumentException" "java/lang/Throwable" "depth" "I" ∈ WG := wg (i := 341) (by decide +kernel) rfl
theorem w_308 : Cond.superclass "java/lang/IllegalArgumentException" "java/lang/RuntimeException" ∈ WG := wg (i := 342) (by decide +kernel) rfl
theorem w_309 : Cond.methodLink "PlaceMoves" 75 ⟨"PlaceMoves", "needRoom", "(II)V"⟩ ∈ WG := wg (i := 343) (by decide +kernel) rfl
theorem w_310 : Cond.static ⟨"PlaceMoves", "needRoom", "(II)V"⟩ ∈ WG := wg (i := 344) (by decide +kernel) rfl
set_option maxRecDepth 100000 in
theorem w_311 : Cond.code ⟨"PlaceMoves", "needRoom", "(II)V"⟩ prog_1_method_25_code 2 none ∈ WG := wg (i := 345) rfl rfl
theorem w_312 : Cond.classLink "PlaceMoves" 198 "java/lang/IllegalStateException" ∈ WG := wg (i := 346) (by decide +kernel) rfl
theorem w_313 : Cond.instantiable "java/lang/IllegalStateException" 6 ∈ WG := wg (i := 347) (by decide +kernel) rfl
theorem w_315 : Cond.selects "java/lang/IllegalStateException" ⟨"java/lang/Throwable", "fillInStackTrace", "(I)Ljava/lang/Throwable;"⟩ ⟨"java/lang/Throwable", "fillInStackTrace", "(I)Ljava/lang/Throwable;"⟩ ∈ WG := wg (i := 349) (by decide +kernel) rfl
theorem w_316 : Cond.lays "java/lang/IllegalStateException" "java/lang/Throwable" "cause" "Ljava/lang/Throwable;" ∈ WG := wg (i := 350) (by decide +kernel) rfl
theorem w_317 : Cond.lays "java/lang/IllegalStateException" "java/lang/Throwable" "stackTrace" "[Ljava/lang/StackTraceElement;" ∈ WG := wg (i := 351) (by decide +kernel) rfl
theorem w_318 : Cond.lays "java/lang/IllegalStateException" "java/lang/Throwable" "suppressedExceptions" "Ljava/util/List;" ∈ WG := wg (i := 352) (by decide +kernel) rfl
theorem w_319 : Cond.lays "java/lang/IllegalStateException" "java/lang/Throwable" "detailMessage" "Ljava/lang/String;" ∈ WG := wg (i := 353) (by decide +kernel) rfl
theorem w_320 : Cond.lays "java/lang/IllegalStateException" "java/lang/Throwable" "backtrace" "Ljava/lang/Object;" ∈ WG := wg (i := 354) (by decide +kernel) rfl
theorem w_322 : Cond.methodLink "PlaceMoves" 202 ⟨"java/lang/IllegalStateException", "<init>", "(Ljava/lang/String;)V"⟩ ∈ WG := wg (i := 356) (by decide +kernel) rfl
theorem w_323 : Cond.instanceMethod ⟨"java/lang/IllegalStateException", "<init>", "(Ljava/lang/String;)V"⟩ ∈ WG := wg (i := 357) (by decide +kernel) rfl
set_option maxRecDepth 100000 in
theorem w_324 : Cond.code ⟨"java/lang/IllegalStateException", "<init>", "(Ljava/lang/String;)V"⟩ prog_12_method_2_code 2 none ∈ WG := wg (i := 358) rfl rfl
theorem w_325 : Cond.methodLink "java/lang/IllegalStateException" 7 ⟨"java/lang/RuntimeException", "<init>", "(Ljava/lang/String;)V"⟩ ∈ WG := wg (i := 359) (by decide +kernel) rfl
theorem w_326 : Cond.lays "java/lang/IllegalStateException" "java/lang/Throwable" "depth" "I" ∈ WG := wg (i := 360) (by decide +kernel) rfl
theorem w_327 : Cond.superclass "java/lang/IllegalStateException" "java/lang/RuntimeException" ∈ WG := wg (i := 361) (by decide +kernel) rfl
theorem w_328 : Cond.methodLink "PlaceMoves" 79 ⟨"PlaceMoves$Places", "add", "(II)I"⟩ ∈ WG := wg (i := 362) (by decide +kernel) rfl
theorem w_329 : Cond.instanceMethod ⟨"PlaceMoves$Places", "add", "(II)I"⟩ ∈ WG := wg (i := 363) (by decide +kernel) rfl
theorem w_330 : Cond.selects "PlaceMoves$Places" ⟨"PlaceMoves$Places", "add", "(II)I"⟩ ⟨"PlaceMoves$Places", "add", "(II)I"⟩ ∈ WG := wg (i := 364) (by decide +kernel) rfl
set_option maxRecDepth 100000 in
theorem w_331 : Cond.code ⟨"PlaceMoves$Places", "add", "(II)I"⟩ prog_3_method_2_code 4 (some FieldType.int) ∈ WG := wg (i := 365) rfl rfl
theorem w_332 : Cond.methodLink "PlaceMoves$Places" 22 ⟨"PlaceMoves$Places", "around", "(I)I"⟩ ∈ WG := wg (i := 366) (by decide +kernel) rfl
theorem w_333 : Cond.instanceMethod ⟨"PlaceMoves$Places", "around", "(I)I"⟩ ∈ WG := wg (i := 367) (by decide +kernel) rfl
theorem w_334 : Cond.selects "PlaceMoves$Places" ⟨"PlaceMoves$Places", "around", "(I)I"⟩ ⟨"PlaceMoves$Places", "around", "(I)I"⟩ ∈ WG := wg (i := 368) (by decide +kernel) rfl
set_option maxRecDepth 100000 in
theorem w_335 : Cond.code ⟨"PlaceMoves$Places", "around", "(I)I"⟩ prog_3_method_3_code 2 (some FieldType.int) ∈ WG := wg (i := 369) rfl rfl
theorem w_336 : Cond.methodLink "PlaceMovesLaw" 92 ⟨"PlaceMovesLaw", "object", "(LPlaceMoves;IIII[J)I"⟩ ∈ WG := wg (i := 370) (by decide +kernel) rfl
theorem w_337 : Cond.static ⟨"PlaceMovesLaw", "object", "(LPlaceMoves;IIII[J)I"⟩ ∈ WG := wg (i := 371) (by decide +kernel) rfl
theorem w_339 : Cond.methodLink "PlaceMovesLaw" 19 ⟨"PlaceMoves", "object", "(IIII)I"⟩ ∈ WG := wg (i := 373) (by decide +kernel) rfl
theorem w_340 : Cond.instanceMethod ⟨"PlaceMoves", "object", "(IIII)I"⟩ ∈ WG := wg (i := 374) (by decide +kernel) rfl
theorem w_341 : Cond.selects "PlaceMoves" ⟨"PlaceMoves", "object", "(IIII)I"⟩ ⟨"PlaceMoves", "object", "(IIII)I"⟩ ∈ WG := wg (i := 375) (by decide +kernel) rfl
set_option maxRecDepth 100000 in
theorem w_342 : Cond.code ⟨"PlaceMoves", "object", "(IIII)I"⟩ prog_1_method_3_code 5 (some FieldType.int) ∈ WG := wg (i := 376) rfl rfl
theorem w_343 : Cond.constant "PlaceMoves" 83 (1000000) ∈ WG := wg (i := 377) (by decide +kernel) rfl
theorem w_344 : Cond.methodLink "PlaceMoves" 85 ⟨"PlaceMoves$Things", "add", "(IIII)I"⟩ ∈ WG := wg (i := 378) (by decide +kernel) rfl
theorem w_345 : Cond.instanceMethod ⟨"PlaceMoves$Things", "add", "(IIII)I"⟩ ∈ WG := wg (i := 379) (by decide +kernel) rfl
theorem w_346 : Cond.selects "PlaceMoves$Things" ⟨"PlaceMoves$Things", "add", "(IIII)I"⟩ ⟨"PlaceMoves$Things", "add", "(IIII)I"⟩ ∈ WG := wg (i := 380) (by decide +kernel) rfl
set_option maxRecDepth 100000 in
theorem w_347 : Cond.code ⟨"PlaceMoves$Things", "add", "(IIII)I"⟩ prog_7_method_2_code 6 (some FieldType.int) ∈ WG := wg (i := 381) rfl rfl
theorem w_348 : Cond.methodLink "PlaceMoves$Things" 35 ⟨"java/lang/Math", "min", "(II)I"⟩ ∈ WG := wg (i := 382) (by decide +kernel) rfl
theorem w_349 : Cond.static ⟨"java/lang/Math", "min", "(II)I"⟩ ∈ WG := wg (i := 383) (by decide +kernel) rfl
set_option maxRecDepth 100000 in
theorem w_350 : Cond.code ⟨"java/lang/Math", "min", "(II)I"⟩ prog_13_method_69_code 2 (some FieldType.int) ∈ WG := wg (i := 384) rfl rfl
theorem w_351 : Cond.methodLink "PlaceMoves$Things" 41 ⟨"java/lang/Math", "max", "(II)I"⟩ ∈ WG := wg (i := 385) (by decide +kernel) rfl
theorem w_352 : Cond.static ⟨"java/lang/Math", "max", "(II)I"⟩ ∈ WG := wg (i := 386) (by decide +kernel) rfl
set_option maxRecDepth 100000 in
theorem w_353 : Cond.code ⟨"java/lang/Math", "max", "(II)I"⟩ prog_13_method_65_code 2 (some FieldType.int) ∈ WG := wg (i := 387) rfl rfl
theorem w_354 : Cond.methodLink "PlaceMovesLaw" 96 ⟨"PlaceMovesLaw", "keys", "(LPlaceMoves;II[J)I"⟩ ∈ WG := wg (i := 388) (by decide +kernel) rfl
theorem w_355 : Cond.static ⟨"PlaceMovesLaw", "keys", "(LPlaceMoves;II[J)I"⟩ ∈ WG := wg (i := 389) (by decide +kernel) rfl
theorem w_357 : Cond.methodLink "PlaceMovesLaw" 23 ⟨"PlaceMoves", "keys", "(II)I"⟩ ∈ WG := wg (i := 391) (by decide +kernel) rfl
theorem w_358 : Cond.instanceMethod ⟨"PlaceMoves", "keys", "(II)I"⟩ ∈ WG := wg (i := 392) (by decide +kernel) rfl
theorem w_359 : Cond.selects "PlaceMoves" ⟨"PlaceMoves", "keys", "(II)I"⟩ ⟨"PlaceMoves", "keys", "(II)I"⟩ ∈ WG := wg (i := 393) (by decide +kernel) rfl
set_option maxRecDepth 100000 in
theorem w_360 : Cond.code ⟨"PlaceMoves", "keys", "(II)I"⟩ prog_1_method_4_code 4 (some FieldType.int) ∈ WG := wg (i := 394) rfl rfl
theorem w_361 : Cond.methodLink "PlaceMoves" 88 ⟨"PlaceMoves", "needObject", "(I)V"⟩ ∈ WG := wg (i := 395) (by decide +kernel) rfl
theorem w_363 : Cond.instanceMethod ⟨"PlaceMoves", "needObject", "(I)V"⟩ ∈ WG := wg (i := 397) (by decide +kernel) rfl
set_option maxRecDepth 100000 in
theorem w_364 : Cond.code ⟨"PlaceMoves", "needObject", "(I)V"⟩ prog_1_method_21_code 2 none ∈ WG := wg (i := 398) rfl rfl
theorem w_365 : Cond.methodLink "PlaceMovesLaw" 99 ⟨"PlaceMovesLaw", "key", "(LPlaceMoves;IZ[J)I"⟩ ∈ WG := wg (i := 399) (by decide +kernel) rfl
theorem w_366 : Cond.static ⟨"PlaceMovesLaw", "key", "(LPlaceMoves;IZ[J)I"⟩ ∈ WG := wg (i := 400) (by decide +kernel) rfl
theorem w_368 : Cond.methodLink "PlaceMovesLaw" 26 ⟨"PlaceMoves", "key", "(IZ)Z"⟩ ∈ WG := wg (i := 402) (by decide +kernel) rfl
theorem w_369 : Cond.instanceMethod ⟨"PlaceMoves", "key", "(IZ)Z"⟩ ∈ WG := wg (i := 403) (by decide +kernel) rfl
theorem w_370 : Cond.selects "PlaceMoves" ⟨"PlaceMoves", "key", "(IZ)Z"⟩ ⟨"PlaceMoves", "key", "(IZ)Z"⟩ ∈ WG := wg (i := 404) (by decide +kernel) rfl
set_option maxRecDepth 100000 in
theorem w_371 : Cond.code ⟨"PlaceMoves", "key", "(IZ)Z"⟩ prog_1_method_5_code 4 (some FieldType.boolean) ∈ WG := wg (i := 405) rfl rfl
theorem w_372 : Cond.methodLink "PlaceMoves" 94 ⟨"PlaceMoves", "needPerson", "(I)V"⟩ ∈ WG := wg (i := 406) (by decide +kernel) rfl
theorem w_374 : Cond.instanceMethod ⟨"PlaceMoves", "needPerson", "(I)V"⟩ ∈ WG := wg (i := 408) (by decide +kernel) rfl
set_option maxRecDepth 100000 in
theorem w_375 : Cond.code ⟨"PlaceMoves", "needPerson", "(I)V"⟩ prog_1_method_22_code 2 none ∈ WG := wg (i := 409) rfl rfl
theorem w_376 : Cond.methodLink "PlaceMovesLaw" 103 ⟨"PlaceMovesLaw", "box", "(LPlaceMoves;I[J)I"⟩ ∈ WG := wg (i := 410) (by decide +kernel) rfl
theorem w_377 : Cond.static ⟨"PlaceMovesLaw", "box", "(LPlaceMoves;I[J)I"⟩ ∈ WG := wg (i := 411) (by decide +kernel) rfl
theorem w_379 : Cond.methodLink "PlaceMovesLaw" 30 ⟨"PlaceMoves", "box", "(I)Z"⟩ ∈ WG := wg (i := 413) (by decide +kernel) rfl
theorem w_380 : Cond.instanceMethod ⟨"PlaceMoves", "box", "(I)Z"⟩ ∈ WG := wg (i := 414) (by decide +kernel) rfl
theorem w_381 : Cond.selects "PlaceMoves" ⟨"PlaceMoves", "box", "(I)Z"⟩ ⟨"PlaceMoves", "box", "(I)Z"⟩ ∈ WG := wg (i := 415) (by decide +kernel) rfl
set_option maxRecDepth 100000 in
theorem w_382 : Cond.code ⟨"PlaceMoves", "box", "(I)Z"⟩ prog_1_method_6_code 3 (some FieldType.boolean) ∈ WG := wg (i := 416) rfl rfl
theorem w_383 : Cond.methodLink "PlaceMovesLaw" 107 ⟨"PlaceMovesLaw", "move", "(LPlaceMoves;IIIII[J)I"⟩ ∈ WG := wg (i := 417) (by decide +kernel) rfl
theorem w_384 : Cond.static ⟨"PlaceMovesLaw", "move", "(LPlaceMoves;IIIII[J)I"⟩ ∈ WG := wg (i := 418) (by decide +kernel) rfl
theorem w_386 : Cond.methodLink "PlaceMovesLaw" 34 ⟨"PlaceMoves", "move", "(IIIII)I"⟩ ∈ WG := wg (i := 420) (by decide +kernel) rfl
theorem w_387 : Cond.instanceMethod ⟨"PlaceMoves", "move", "(IIIII)I"⟩ ∈ WG := wg (i := 421) (by decide +kernel) rfl
theorem w_388 : Cond.selects "PlaceMoves" ⟨"PlaceMoves", "move", "(IIIII)I"⟩ ⟨"PlaceMoves", "move", "(IIIII)I"⟩ ∈ WG := wg (i := 422) (by decide +kernel) rfl
set_option maxRecDepth 100000 in
theorem w_389 : Cond.code ⟨"PlaceMoves", "move", "(IIIII)I"⟩ prog_1_method_7_code 6 (some FieldType.int) ∈ WG := wg (i := 423) rfl rfl
theorem w_390 : Cond.methodLink "PlaceMoves" 102 ⟨"PlaceMoves", "needKeysOf", "(III)V"⟩ ∈ WG := wg (i := 424) (by decide +kernel) rfl
theorem w_392 : Cond.instanceMethod ⟨"PlaceMoves", "needKeysOf", "(III)V"⟩ ∈ WG := wg (i := 426) (by decide +kernel) rfl
set_option maxRecDepth 100000 in
theorem w_393 : Cond.code ⟨"PlaceMoves", "needKeysOf", "(III)V"⟩ prog_1_method_26_code 6 none ∈ WG := wg (i := 427) rfl rfl
theorem w_395 : Cond.methodLink "PlaceMoves" 105 ⟨"PlaceMoves", "placeAt", "(II)I"⟩ ∈ WG := wg (i := 429) (by decide +kernel) rfl
theorem w_397 : Cond.instanceMethod ⟨"PlaceMoves", "placeAt", "(II)I"⟩ ∈ WG := wg (i := 431) (by decide +kernel) rfl
set_option maxRecDepth 100000 in
theorem w_398 : Cond.code ⟨"PlaceMoves", "placeAt", "(II)I"⟩ prog_1_method_27_code 6 (some FieldType.int) ∈ WG := wg (i := 432) rfl rfl
theorem w_399 : Cond.methodLink "PlaceMoves" 123 ⟨"PlaceMoves$Rows", "held", "(II)I"⟩ ∈ WG := wg (i := 433) (by decide +kernel) rfl
theorem w_400 : Cond.instanceMethod ⟨"PlaceMoves$Rows", "held", "(II)I"⟩ ∈ WG := wg (i := 434) (by decide +kernel) rfl
theorem w_401 : Cond.selects "PlaceMoves$Rows" ⟨"PlaceMoves$Rows", "held", "(II)I"⟩ ⟨"PlaceMoves$Rows", "held", "(II)I"⟩ ∈ WG := wg (i := 435) (by decide +kernel) rfl
set_option maxRecDepth 100000 in
theorem w_402 : Cond.code ⟨"PlaceMoves$Rows", "held", "(II)I"⟩ prog_6_method_5_code 5 (some FieldType.int) ∈ WG := wg (i := 436) rfl rfl
theorem w_403 : Cond.methodLink "PlaceMoves$Rows" 28 ⟨"PlaceMoves$Rows", "index", "(II)I"⟩ ∈ WG := wg (i := 437) (by decide +kernel) rfl
theorem w_404 : Cond.static ⟨"PlaceMoves$Rows", "index", "(II)I"⟩ ∈ WG := wg (i := 438) (by decide +kernel) rfl
set_option maxRecDepth 100000 in
theorem w_405 : Cond.code ⟨"PlaceMoves$Rows", "index", "(II)I"⟩ prog_6_method_2_code 2 (some FieldType.int) ∈ WG := wg (i := 439) rfl rfl
theorem w_406 : Cond.methodLink "PlaceMoves" 108 ⟨"PlaceMoves", "isBarred", "(III)Z"⟩ ∈ WG := wg (i := 440) (by decide +kernel) rfl
theorem w_408 : Cond.instanceMethod ⟨"PlaceMoves", "isBarred", "(III)Z"⟩ ∈ WG := wg (i := 442) (by decide +kernel) rfl
set_option maxRecDepth 100000 in
theorem w_409 : Cond.code ⟨"PlaceMoves", "isBarred", "(III)Z"⟩ prog_1_method_30_code 6 (some FieldType.boolean) ∈ WG := wg (i := 443) rfl rfl
theorem w_410 : Cond.methodLink "PlaceMoves" 213 ⟨"PlaceMoves$QuietTimes", "covers", "(II)Z"⟩ ∈ WG := wg (i := 444) (by decide +kernel) rfl
theorem w_411 : Cond.instanceMethod ⟨"PlaceMoves$QuietTimes", "covers", "(II)Z"⟩ ∈ WG := wg (i := 445) (by decide +kernel) rfl
theorem w_412 : Cond.selects "PlaceMoves$QuietTimes" ⟨"PlaceMoves$QuietTimes", "covers", "(II)Z"⟩ ⟨"PlaceMoves$QuietTimes", "covers", "(II)Z"⟩ ∈ WG := wg (i := 446) (by decide +kernel) rfl
set_option maxRecDepth 100000 in
theorem w_413 : Cond.code ⟨"PlaceMoves$QuietTimes", "covers", "(II)Z"⟩ prog_5_method_3_code 3 (some FieldType.boolean) ∈ WG := wg (i := 447) rfl rfl
theorem w_414 : Cond.methodLink "PlaceMoves" 216 ⟨"PlaceMoves$Places", "liesIn", "(II)Z"⟩ ∈ WG := wg (i := 448) (by decide +kernel) rfl
theorem w_415 : Cond.instanceMethod ⟨"PlaceMoves$Places", "liesIn", "(II)Z"⟩ ∈ WG := wg (i := 449) (by decide +kernel) rfl
theorem w_416 : Cond.selects "PlaceMoves$Places" ⟨"PlaceMoves$Places", "liesIn", "(II)Z"⟩ ⟨"PlaceMoves$Places", "liesIn", "(II)Z"⟩ ∈ WG := wg (i := 450) (by decide +kernel) rfl
set_option maxRecDepth 100000 in
theorem w_417 : Cond.code ⟨"PlaceMoves$Places", "liesIn", "(II)Z"⟩ prog_3_method_4_code 3 (some FieldType.boolean) ∈ WG := wg (i := 451) rfl rfl
theorem w_418 : Cond.methodLink "PlaceMoves" 112 ⟨"PlaceMoves", "comesByRow", "(IIII)Z"⟩ ∈ WG := wg (i := 452) (by decide +kernel) rfl
theorem w_420 : Cond.instanceMethod ⟨"PlaceMoves", "comesByRow", "(IIII)Z"⟩ ∈ WG := wg (i := 454) (by decide +kernel) rfl
set_option maxRecDepth 100000 in
theorem w_421 : Cond.code ⟨"PlaceMoves", "comesByRow", "(IIII)Z"⟩ prog_1_method_31_code 6 (some FieldType.boolean) ∈ WG := wg (i := 455) rfl rfl
theorem w_422 : Cond.methodLink "PlaceMoves" 219 ⟨"PlaceMoves$Rows", "add", "(IIII)V"⟩ ∈ WG := wg (i := 456) (by decide +kernel) rfl
theorem w_423 : Cond.instanceMethod ⟨"PlaceMoves$Rows", "add", "(IIII)V"⟩ ∈ WG := wg (i := 457) (by decide +kernel) rfl
theorem w_424 : Cond.selects "PlaceMoves$Rows" ⟨"PlaceMoves$Rows", "add", "(IIII)V"⟩ ⟨"PlaceMoves$Rows", "add", "(IIII)V"⟩ ∈ WG := wg (i := 458) (by decide +kernel) rfl
set_option maxRecDepth 100000 in
theorem w_425 : Cond.code ⟨"PlaceMoves$Rows", "add", "(IIII)V"⟩ prog_6_method_3_code 6 none ∈ WG := wg (i := 459) rfl rfl
theorem w_426 : Cond.methodLink "PlaceMoves" 168 ⟨"PlaceMoves", "loadsHold", "(III)Z"⟩ ∈ WG := wg (i := 460) (by decide +kernel) rfl
theorem w_428 : Cond.instanceMethod ⟨"PlaceMoves", "loadsHold", "(III)Z"⟩ ∈ WG := wg (i := 462) (by decide +kernel) rfl
set_option maxRecDepth 100000 in
theorem w_429 : Cond.code ⟨"PlaceMoves", "loadsHold", "(III)Z"⟩ prog_1_method_32_code 6 (some FieldType.boolean) ∈ WG := wg (i := 463) rfl rfl
theorem w_430 : Cond.methodLink "PlaceMoves" 222 ⟨"PlaceMoves", "loadsHoldAt", "(II)Z"⟩ ∈ WG := wg (i := 464) (by decide +kernel) rfl
theorem w_432 : Cond.instanceMethod ⟨"PlaceMoves", "loadsHoldAt", "(II)Z"⟩ ∈ WG := wg (i := 466) (by decide +kernel) rfl
set_option maxRecDepth 100000 in
theorem w_433 : Cond.code ⟨"PlaceMoves", "loadsHoldAt", "(II)Z"⟩ prog_1_method_33_code 4 (some FieldType.boolean) ∈ WG := wg (i := 467) rfl rfl
theorem w_434 : Cond.methodLink "PlaceMoves" 174 ⟨"PlaceMoves", "weighAt", "(I)V"⟩ ∈ WG := wg (i := 468) (by decide +kernel) rfl
theorem w_436 : Cond.instanceMethod ⟨"PlaceMoves", "weighAt", "(I)V"⟩ ∈ WG := wg (i := 470) (by decide +kernel) rfl
set_option maxRecDepth 100000 in
theorem w_437 : Cond.code ⟨"PlaceMoves", "weighAt", "(I)V"⟩ prog_1_method_34_code 3 none ∈ WG := wg (i := 471) rfl rfl
theorem w_438 : Cond.methodLink "PlaceMoves" 231 ⟨"PlaceMoves$Places", "around", "(I)I"⟩ ∈ WG := wg (i := 472) (by decide +kernel) rfl
theorem w_439 : Cond.methodLink "PlaceMoves" 234 ⟨"PlaceMoves$Plans", "covers", "(II)Z"⟩ ∈ WG := wg (i := 473) (by decide +kernel) rfl
theorem w_440 : Cond.instanceMethod ⟨"PlaceMoves$Plans", "covers", "(II)Z"⟩ ∈ WG := wg (i := 474) (by decide +kernel) rfl
theorem w_441 : Cond.selects "PlaceMoves$Plans" ⟨"PlaceMoves$Plans", "covers", "(II)Z"⟩ ⟨"PlaceMoves$Plans", "covers", "(II)Z"⟩ ∈ WG := wg (i := 475) (by decide +kernel) rfl
set_option maxRecDepth 100000 in
theorem w_442 : Cond.code ⟨"PlaceMoves$Plans", "covers", "(II)Z"⟩ prog_4_method_4_code 3 (some FieldType.boolean) ∈ WG := wg (i := 476) rfl rfl
theorem w_443 : Cond.methodLink "PlaceMoves" 177 ⟨"PlaceMoves", "weightOf", "(I)I"⟩ ∈ WG := wg (i := 477) (by decide +kernel) rfl
theorem w_445 : Cond.instanceMethod ⟨"PlaceMoves", "weightOf", "(I)I"⟩ ∈ WG := wg (i := 479) (by decide +kernel) rfl
set_option maxRecDepth 100000 in
theorem w_446 : Cond.code ⟨"PlaceMoves", "weightOf", "(I)I"⟩ prog_1_method_35_code 4 (some FieldType.int) ∈ WG := wg (i := 480) rfl rfl
theorem w_447 : Cond.methodLink "PlaceMoves" 220 ⟨"PlaceMoves$Rows", "dropNewest", "(I)V"⟩ ∈ WG := wg (i := 481) (by decide +kernel) rfl
theorem w_448 : Cond.instanceMethod ⟨"PlaceMoves$Rows", "dropNewest", "(I)V"⟩ ∈ WG := wg (i := 482) (by decide +kernel) rfl
theorem w_449 : Cond.selects "PlaceMoves$Rows" ⟨"PlaceMoves$Rows", "dropNewest", "(I)V"⟩ ⟨"PlaceMoves$Rows", "dropNewest", "(I)V"⟩ ∈ WG := wg (i := 483) (by decide +kernel) rfl
set_option maxRecDepth 100000 in
theorem w_450 : Cond.code ⟨"PlaceMoves$Rows", "dropNewest", "(I)V"⟩ prog_6_method_4_code 2 none ∈ WG := wg (i := 484) rfl rfl
theorem w_451 : Cond.methodLink "PlaceMovesLaw" 111 ⟨"PlaceMovesLaw", "into", "(LPlaceMoves;III[J)I"⟩ ∈ WG := wg (i := 485) (by decide +kernel) rfl
theorem w_452 : Cond.static ⟨"PlaceMovesLaw", "into", "(LPlaceMoves;III[J)I"⟩ ∈ WG := wg (i := 486) (by decide +kernel) rfl
theorem w_454 : Cond.methodLink "PlaceMovesLaw" 38 ⟨"PlaceMoves", "into", "(III)I"⟩ ∈ WG := wg (i := 488) (by decide +kernel) rfl
theorem w_455 : Cond.instanceMethod ⟨"PlaceMoves", "into", "(III)I"⟩ ∈ WG := wg (i := 489) (by decide +kernel) rfl
theorem w_456 : Cond.selects "PlaceMoves" ⟨"PlaceMoves", "into", "(III)I"⟩ ⟨"PlaceMoves", "into", "(III)I"⟩ ∈ WG := wg (i := 490) (by decide +kernel) rfl
set_option maxRecDepth 100000 in
theorem w_457 : Cond.code ⟨"PlaceMoves", "into", "(III)I"⟩ prog_1_method_8_code 4 (some FieldType.int) ∈ WG := wg (i := 491) rfl rfl
theorem w_458 : Cond.methodLink "PlaceMoves" 116 ⟨"PlaceMoves", "isWithin", "(III)Z"⟩ ∈ WG := wg (i := 492) (by decide +kernel) rfl
theorem w_460 : Cond.instanceMethod ⟨"PlaceMoves", "isWithin", "(III)Z"⟩ ∈ WG := wg (i := 494) (by decide +kernel) rfl
set_option maxRecDepth 100000 in
theorem w_461 : Cond.code ⟨"PlaceMoves", "isWithin", "(III)Z"⟩ prog_1_method_29_code 7 (some FieldType.boolean) ∈ WG := wg (i := 495) rfl rfl
theorem w_462 : Cond.methodLink "PlaceMoves" 119 ⟨"PlaceMoves$Things", "isSmaller", "(II)Z"⟩ ∈ WG := wg (i := 496) (by decide +kernel) rfl
theorem w_463 : Cond.instanceMethod ⟨"PlaceMoves$Things", "isSmaller", "(II)Z"⟩ ∈ WG := wg (i := 497) (by decide +kernel) rfl
theorem w_464 : Cond.selects "PlaceMoves$Things" ⟨"PlaceMoves$Things", "isSmaller", "(II)Z"⟩ ⟨"PlaceMoves$Things", "isSmaller", "(II)Z"⟩ ∈ WG := wg (i := 498) (by decide +kernel) rfl
set_option maxRecDepth 100000 in
theorem w_465 : Cond.code ⟨"PlaceMoves$Things", "isSmaller", "(II)Z"⟩ prog_7_method_3_code 3 (some FieldType.boolean) ∈ WG := wg (i := 499) rfl rfl
theorem w_466 : Cond.methodLink "PlaceMovesLaw" 115 ⟨"PlaceMovesLaw", "lost", "(LPlaceMoves;II[J)I"⟩ ∈ WG := wg (i := 500) (by decide +kernel) rfl
theorem w_467 : Cond.static ⟨"PlaceMovesLaw", "lost", "(LPlaceMoves;II[J)I"⟩ ∈ WG := wg (i := 501) (by decide +kernel) rfl
theorem w_469 : Cond.methodLink "PlaceMovesLaw" 42 ⟨"PlaceMoves", "lost", "(II)Z"⟩ ∈ WG := wg (i := 503) (by decide +kernel) rfl
theorem w_470 : Cond.instanceMethod ⟨"PlaceMoves", "lost", "(II)Z"⟩ ∈ WG := wg (i := 504) (by decide +kernel) rfl
theorem w_471 : Cond.selects "PlaceMoves" ⟨"PlaceMoves", "lost", "(II)Z"⟩ ⟨"PlaceMoves", "lost", "(II)Z"⟩ ∈ WG := wg (i := 505) (by decide +kernel) rfl
set_option maxRecDepth 100000 in
theorem w_472 : Cond.code ⟨"PlaceMoves", "lost", "(II)Z"⟩ prog_1_method_9_code 4 (some FieldType.boolean) ∈ WG := wg (i := 506) rfl rfl
theorem w_473 : Cond.methodLink "PlaceMovesLaw" 118 ⟨"PlaceMovesLaw", "where", "(LPlaceMoves;II[J)I"⟩ ∈ WG := wg (i := 507) (by decide +kernel) rfl
theorem w_474 : Cond.static ⟨"PlaceMovesLaw", "where", "(LPlaceMoves;II[J)I"⟩ ∈ WG := wg (i := 508) (by decide +kernel) rfl
theorem w_476 : Cond.methodLink "PlaceMovesLaw" 46 ⟨"PlaceMoves", "where", "(II)I"⟩ ∈ WG := wg (i := 510) (by decide +kernel) rfl
theorem w_477 : Cond.instanceMethod ⟨"PlaceMoves", "where", "(II)I"⟩ ∈ WG := wg (i := 511) (by decide +kernel) rfl
theorem w_478 : Cond.selects "PlaceMoves" ⟨"PlaceMoves", "where", "(II)I"⟩ ⟨"PlaceMoves", "where", "(II)I"⟩ ∈ WG := wg (i := 512) (by decide +kernel) rfl
set_option maxRecDepth 100000 in
theorem w_479 : Cond.code ⟨"PlaceMoves", "where", "(II)I"⟩ prog_1_method_10_code 3 (some FieldType.int) ∈ WG := wg (i := 513) rfl rfl
theorem w_480 : Cond.methodLink "PlaceMovesLaw" 121 ⟨"PlaceMovesLaw", "last", "(LPlaceMoves;I[J)I"⟩ ∈ WG := wg (i := 514) (by decide +kernel) rfl
theorem w_481 : Cond.static ⟨"PlaceMovesLaw", "last", "(LPlaceMoves;I[J)I"⟩ ∈ WG := wg (i := 515) (by decide +kernel) rfl
theorem w_483 : Cond.methodLink "PlaceMovesLaw" 49 ⟨"PlaceMoves", "last", "(I)I"⟩ ∈ WG := wg (i := 517) (by decide +kernel) rfl
theorem w_484 : Cond.instanceMethod ⟨"PlaceMoves", "last", "(I)I"⟩ ∈ WG := wg (i := 518) (by decide +kernel) rfl
theorem w_485 : Cond.selects "PlaceMoves" ⟨"PlaceMoves", "last", "(I)I"⟩ ⟨"PlaceMoves", "last", "(I)I"⟩ ∈ WG := wg (i := 519) (by decide +kernel) rfl
set_option maxRecDepth 100000 in
theorem w_486 : Cond.code ⟨"PlaceMoves", "last", "(I)I"⟩ prog_1_method_11_code 5 (some FieldType.int) ∈ WG := wg (i := 520) rfl rfl
theorem w_487 : Cond.methodLink "PlaceMoves" 129 ⟨"PlaceMoves", "standsSince", "(II)I"⟩ ∈ WG := wg (i := 521) (by decide +kernel) rfl
theorem w_489 : Cond.instanceMethod ⟨"PlaceMoves", "standsSince", "(II)I"⟩ ∈ WG := wg (i := 523) (by decide +kernel) rfl
set_option maxRecDepth 100000 in
theorem w_490 : Cond.code ⟨"PlaceMoves", "standsSince", "(II)I"⟩ prog_1_method_28_code 7 (some FieldType.int) ∈ WG := wg (i := 524) rfl rfl
theorem w_491 : Cond.methodLink "PlaceMoves" 205 ⟨"java/lang/Math", "max", "(II)I"⟩ ∈ WG := wg (i := 525) (by decide +kernel) rfl
theorem w_492 : Cond.methodLink "PlaceMovesLaw" 124 ⟨"PlaceMovesLaw", "history", "(LPlaceMoves;III[J)I"⟩ ∈ WG := wg (i := 526) (by decide +kernel) rfl
theorem w_493 : Cond.static ⟨"PlaceMovesLaw", "history", "(LPlaceMoves;III[J)I"⟩ ∈ WG := wg (i := 527) (by decide +kernel) rfl
theorem w_495 : Cond.methodLink "PlaceMovesLaw" 53 ⟨"PlaceMoves", "history", "(III)I"⟩ ∈ WG := wg (i := 529) (by decide +kernel) rfl
theorem w_496 : Cond.instanceMethod ⟨"PlaceMoves", "history", "(III)I"⟩ ∈ WG := wg (i := 530) (by decide +kernel) rfl
theorem w_497 : Cond.selects "PlaceMoves" ⟨"PlaceMoves", "history", "(III)I"⟩ ⟨"PlaceMoves", "history", "(III)I"⟩ ∈ WG := wg (i := 531) (by decide +kernel) rfl
set_option maxRecDepth 100000 in
theorem w_498 : Cond.code ⟨"PlaceMoves", "history", "(III)I"⟩ prog_1_method_12_code 5 (some FieldType.int) ∈ WG := wg (i := 532) rfl rfl
theorem w_499 : Cond.methodLink "PlaceMoves" 135 ⟨"PlaceMoves$Rows", "index", "(II)I"⟩ ∈ WG := wg (i := 533) (by decide +kernel) rfl
theorem w_500 : Cond.methodLink "PlaceMovesLaw" 127 ⟨"PlaceMovesLaw", "door", "(LPlaceMoves;IIII[J)I"⟩ ∈ WG := wg (i := 534) (by decide +kernel) rfl
theorem w_501 : Cond.static ⟨"PlaceMovesLaw", "door", "(LPlaceMoves;IIII[J)I"⟩ ∈ WG := wg (i := 535) (by decide +kernel) rfl
theorem w_503 : Cond.methodLink "PlaceMovesLaw" 56 ⟨"PlaceMoves", "door", "(IIII)I"⟩ ∈ WG := wg (i := 537) (by decide +kernel) rfl
theorem w_504 : Cond.instanceMethod ⟨"PlaceMoves", "door", "(IIII)I"⟩ ∈ WG := wg (i := 538) (by decide +kernel) rfl
theorem w_505 : Cond.selects "PlaceMoves" ⟨"PlaceMoves", "door", "(IIII)I"⟩ ⟨"PlaceMoves", "door", "(IIII)I"⟩ ∈ WG := wg (i := 539) (by decide +kernel) rfl
set_option maxRecDepth 100000 in
theorem w_506 : Cond.code ⟨"PlaceMoves", "door", "(IIII)I"⟩ prog_1_method_13_code 5 (some FieldType.int) ∈ WG := wg (i := 540) rfl rfl
theorem w_508 : Cond.methodLink "PlaceMoves" 152 ⟨"PlaceMoves$Doors", "add", "(IIII)I"⟩ ∈ WG := wg (i := 542) (by decide +kernel) rfl
theorem w_509 : Cond.instanceMethod ⟨"PlaceMoves$Doors", "add", "(IIII)I"⟩ ∈ WG := wg (i := 543) (by decide +kernel) rfl
theorem w_510 : Cond.selects "PlaceMoves$Doors" ⟨"PlaceMoves$Doors", "add", "(IIII)I"⟩ ⟨"PlaceMoves$Doors", "add", "(IIII)I"⟩ ∈ WG := wg (i := 544) (by decide +kernel) rfl
set_option maxRecDepth 100000 in
theorem w_511 : Cond.code ⟨"PlaceMoves$Doors", "add", "(IIII)I"⟩ prog_2_method_2_code 6 (some FieldType.int) ∈ WG := wg (i := 545) rfl rfl
theorem w_512 : Cond.methodLink "PlaceMoves$Doors" 28 ⟨"java/lang/Math", "max", "(II)I"⟩ ∈ WG := wg (i := 546) (by decide +kernel) rfl
theorem w_513 : Cond.methodLink "PlaceMoves$Doors" 34 ⟨"java/lang/Math", "min", "(II)I"⟩ ∈ WG := wg (i := 547) (by decide +kernel) rfl
theorem w_514 : Cond.methodLink "PlaceMovesLaw" 130 ⟨"PlaceMovesLaw", "passes", "(LPlaceMoves;II[J)I"⟩ ∈ WG := wg (i := 548) (by decide +kernel) rfl
theorem w_515 : Cond.static ⟨"PlaceMovesLaw", "passes", "(LPlaceMoves;II[J)I"⟩ ∈ WG := wg (i := 549) (by decide +kernel) rfl
theorem w_517 : Cond.methodLink "PlaceMovesLaw" 59 ⟨"PlaceMoves", "passes", "(II)Z"⟩ ∈ WG := wg (i := 551) (by decide +kernel) rfl
theorem w_518 : Cond.instanceMethod ⟨"PlaceMoves", "passes", "(II)Z"⟩ ∈ WG := wg (i := 552) (by decide +kernel) rfl
theorem w_519 : Cond.selects "PlaceMoves" ⟨"PlaceMoves", "passes", "(II)Z"⟩ ⟨"PlaceMoves", "passes", "(II)Z"⟩ ∈ WG := wg (i := 553) (by decide +kernel) rfl
set_option maxRecDepth 100000 in
theorem w_520 : Cond.code ⟨"PlaceMoves", "passes", "(II)Z"⟩ prog_1_method_14_code 3 (some FieldType.boolean) ∈ WG := wg (i := 554) rfl rfl
theorem w_521 : Cond.methodLink "PlaceMoves" 153 ⟨"PlaceMoves", "fits", "(II)Z"⟩ ∈ WG := wg (i := 555) (by decide +kernel) rfl
theorem w_523 : Cond.instanceMethod ⟨"PlaceMoves", "fits", "(II)Z"⟩ ∈ WG := wg (i := 557) (by decide +kernel) rfl
set_option maxRecDepth 100000 in
theorem w_524 : Cond.code ⟨"PlaceMoves", "fits", "(II)Z"⟩ prog_1_method_36_code 6 (some FieldType.boolean) ∈ WG := wg (i := 558) rfl rfl
theorem w_525 : Cond.methodLink "PlaceMoves" 251 ⟨"PlaceMoves$Doors", "letsThrough", "(III)Z"⟩ ∈ WG := wg (i := 559) (by decide +kernel) rfl
theorem w_526 : Cond.instanceMethod ⟨"PlaceMoves$Doors", "letsThrough", "(III)Z"⟩ ∈ WG := wg (i := 560) (by decide +kernel) rfl
theorem w_527 : Cond.selects "PlaceMoves$Doors" ⟨"PlaceMoves$Doors", "letsThrough", "(III)Z"⟩ ⟨"PlaceMoves$Doors", "letsThrough", "(III)Z"⟩ ∈ WG := wg (i := 561) (by decide +kernel) rfl
set_option maxRecDepth 100000 in
theorem w_528 : Cond.code ⟨"PlaceMoves$Doors", "letsThrough", "(III)Z"⟩ prog_2_method_3_code 4 (some FieldType.boolean) ∈ WG := wg (i := 562) rfl rfl
theorem w_529 : Cond.methodLink "PlaceMoves$Doors" 37 ⟨"PlaceMoves$Doors", "goesTurned", "(JJJJ)Z"⟩ ∈ WG := wg (i := 563) (by decide +kernel) rfl
theorem w_530 : Cond.static ⟨"PlaceMoves$Doors", "goesTurned", "(JJJJ)Z"⟩ ∈ WG := wg (i := 564) (by decide +kernel) rfl
set_option maxRecDepth 100000 in
theorem w_531 : Cond.code ⟨"PlaceMoves$Doors", "goesTurned", "(JJJJ)Z"⟩ prog_2_method_4_code 14 (some FieldType.boolean) ∈ WG := wg (i := 565) rfl rfl
theorem w_532 : Cond.constantLong "PlaceMoves$Doors" 41 (2) ∈ WG := wg (i := 566) (by decide +kernel) rfl
theorem w_533 : Cond.methodLink "PlaceMovesLaw" 133 ⟨"PlaceMovesLaw", "way", "(LPlaceMoves;II[J)I"⟩ ∈ WG := wg (i := 567) (by decide +kernel) rfl
theorem w_534 : Cond.static ⟨"PlaceMovesLaw", "way", "(LPlaceMoves;II[J)I"⟩ ∈ WG := wg (i := 568) (by decide +kernel) rfl
theorem w_536 : Cond.methodLink "PlaceMovesLaw" 62 ⟨"PlaceMoves", "way", "(II)I"⟩ ∈ WG := wg (i := 570) (by decide +kernel) rfl
theorem w_537 : Cond.instanceMethod ⟨"PlaceMoves", "way", "(II)I"⟩ ∈ WG := wg (i := 571) (by decide +kernel) rfl
theorem w_538 : Cond.selects "PlaceMoves" ⟨"PlaceMoves", "way", "(II)I"⟩ ⟨"PlaceMoves", "way", "(II)I"⟩ ∈ WG := wg (i := 572) (by decide +kernel) rfl
set_option maxRecDepth 100000 in
theorem w_539 : Cond.code ⟨"PlaceMoves", "way", "(II)I"⟩ prog_1_method_15_code 4 (some FieldType.int) ∈ WG := wg (i := 573) rfl rfl
theorem w_540 : Cond.methodLink "PlaceMoves" 156 ⟨"PlaceMoves", "fittingDoors", "(I)J"⟩ ∈ WG := wg (i := 574) (by decide +kernel) rfl
theorem w_542 : Cond.instanceMethod ⟨"PlaceMoves", "fittingDoors", "(I)J"⟩ ∈ WG := wg (i := 576) (by decide +kernel) rfl
set_option maxRecDepth 100000 in
theorem w_543 : Cond.code ⟨"PlaceMoves", "fittingDoors", "(I)J"⟩ prog_1_method_37_code 5 (some FieldType.long) ∈ WG := wg (i := 577) rfl rfl
theorem w_544 : Cond.methodLink "PlaceMoves" 160 ⟨"PlaceMoves", "doorsBetween", "(IIJ)I"⟩ ∈ WG := wg (i := 578) (by decide +kernel) rfl
theorem w_546 : Cond.instanceMethod ⟨"PlaceMoves", "doorsBetween", "(IIJ)I"⟩ ∈ WG := wg (i := 580) (by decide +kernel) rfl
set_option maxRecDepth 100000 in
theorem w_547 : Cond.code ⟨"PlaceMoves", "doorsBetween", "(IIJ)I"⟩ prog_1_method_38_code 8 (some FieldType.int) ∈ WG := wg (i := 581) rfl rfl
theorem w_548 : Cond.methodLink "PlaceMoves" 254 ⟨"PlaceMoves$Doors", "spread", "(IJ)I"⟩ ∈ WG := wg (i := 582) (by decide +kernel) rfl
theorem w_549 : Cond.instanceMethod ⟨"PlaceMoves$Doors", "spread", "(IJ)I"⟩ ∈ WG := wg (i := 583) (by decide +kernel) rfl
theorem w_550 : Cond.selects "PlaceMoves$Doors" ⟨"PlaceMoves$Doors", "spread", "(IJ)I"⟩ ⟨"PlaceMoves$Doors", "spread", "(IJ)I"⟩ ∈ WG := wg (i := 584) (by decide +kernel) rfl
set_option maxRecDepth 100000 in
theorem w_551 : Cond.code ⟨"PlaceMoves$Doors", "spread", "(IJ)I"⟩ prog_2_method_5_code 7 (some FieldType.int) ∈ WG := wg (i := 585) rfl rfl
theorem w_552 : Cond.methodLink "PlaceMovesLaw" 136 ⟨"PlaceMovesLaw", "planned", "(LPlaceMoves;IIII[J)I"⟩ ∈ WG := wg (i := 586) (by decide +kernel) rfl
theorem w_553 : Cond.static ⟨"PlaceMovesLaw", "planned", "(LPlaceMoves;IIII[J)I"⟩ ∈ WG := wg (i := 587) (by decide +kernel) rfl
theorem w_555 : Cond.methodLink "PlaceMovesLaw" 65 ⟨"PlaceMoves", "planned", "(IIII)I"⟩ ∈ WG := wg (i := 589) (by decide +kernel) rfl
theorem w_556 : Cond.instanceMethod ⟨"PlaceMoves", "planned", "(IIII)I"⟩ ∈ WG := wg (i := 590) (by decide +kernel) rfl
theorem w_557 : Cond.selects "PlaceMoves" ⟨"PlaceMoves", "planned", "(IIII)I"⟩ ⟨"PlaceMoves", "planned", "(IIII)I"⟩ ∈ WG := wg (i := 591) (by decide +kernel) rfl
set_option maxRecDepth 100000 in
theorem w_558 : Cond.code ⟨"PlaceMoves", "planned", "(IIII)I"⟩ prog_1_method_16_code 5 (some FieldType.int) ∈ WG := wg (i := 592) rfl rfl
theorem w_559 : Cond.methodLink "PlaceMoves" 165 ⟨"PlaceMoves$Plans", "add", "(IIII)V"⟩ ∈ WG := wg (i := 593) (by decide +kernel) rfl
theorem w_560 : Cond.instanceMethod ⟨"PlaceMoves$Plans", "add", "(IIII)V"⟩ ∈ WG := wg (i := 594) (by decide +kernel) rfl
theorem w_561 : Cond.selects "PlaceMoves$Plans" ⟨"PlaceMoves$Plans", "add", "(IIII)V"⟩ ⟨"PlaceMoves$Plans", "add", "(IIII)V"⟩ ∈ WG := wg (i := 595) (by decide +kernel) rfl
set_option maxRecDepth 100000 in
theorem w_562 : Cond.code ⟨"PlaceMoves$Plans", "add", "(IIII)V"⟩ prog_4_method_2_code 5 none ∈ WG := wg (i := 596) rfl rfl
theorem w_563 : Cond.methodLink "PlaceMoves" 171 ⟨"PlaceMoves$Plans", "dropNewest", "()V"⟩ ∈ WG := wg (i := 597) (by decide +kernel) rfl
theorem w_564 : Cond.instanceMethod ⟨"PlaceMoves$Plans", "dropNewest", "()V"⟩ ∈ WG := wg (i := 598) (by decide +kernel) rfl
theorem w_565 : Cond.selects "PlaceMoves$Plans" ⟨"PlaceMoves$Plans", "dropNewest", "()V"⟩ ⟨"PlaceMoves$Plans", "dropNewest", "()V"⟩ ∈ WG := wg (i := 599) (by decide +kernel) rfl
set_option maxRecDepth 100000 in
theorem w_566 : Cond.code ⟨"PlaceMoves$Plans", "dropNewest", "()V"⟩ prog_4_method_3_code 1 none ∈ WG := wg (i := 600) rfl rfl
theorem w_567 : Cond.methodLink "PlaceMovesLaw" 139 ⟨"PlaceMovesLaw", "used", "(LPlaceMoves;II[J)I"⟩ ∈ WG := wg (i := 601) (by decide +kernel) rfl
theorem w_568 : Cond.static ⟨"PlaceMovesLaw", "used", "(LPlaceMoves;II[J)I"⟩ ∈ WG := wg (i := 602) (by decide +kernel) rfl
theorem w_570 : Cond.methodLink "PlaceMovesLaw" 68 ⟨"PlaceMoves", "used", "(II)I"⟩ ∈ WG := wg (i := 604) (by decide +kernel) rfl
theorem w_571 : Cond.instanceMethod ⟨"PlaceMoves", "used", "(II)I"⟩ ∈ WG := wg (i := 605) (by decide +kernel) rfl
theorem w_572 : Cond.selects "PlaceMoves" ⟨"PlaceMoves", "used", "(II)I"⟩ ⟨"PlaceMoves", "used", "(II)I"⟩ ∈ WG := wg (i := 606) (by decide +kernel) rfl
set_option maxRecDepth 100000 in
theorem w_573 : Cond.code ⟨"PlaceMoves", "used", "(II)I"⟩ prog_1_method_17_code 3 (some FieldType.int) ∈ WG := wg (i := 607) rfl rfl
theorem w_574 : Cond.methodLink "PlaceMovesLaw" 142 ⟨"PlaceMovesLaw", "quiet", "(LPlaceMoves;III)I"⟩ ∈ WG := wg (i := 608) (by decide +kernel) rfl
theorem w_575 : Cond.static ⟨"PlaceMovesLaw", "quiet", "(LPlaceMoves;III)I"⟩ ∈ WG := wg (i := 609) (by decide +kernel) rfl
theorem w_577 : Cond.methodLink "PlaceMovesLaw" 71 ⟨"PlaceMoves", "quiet", "(III)V"⟩ ∈ WG := wg (i := 611) (by decide +kernel) rfl
theorem w_578 : Cond.instanceMethod ⟨"PlaceMoves", "quiet", "(III)V"⟩ ∈ WG := wg (i := 612) (by decide +kernel) rfl
theorem w_579 : Cond.selects "PlaceMoves" ⟨"PlaceMoves", "quiet", "(III)V"⟩ ⟨"PlaceMoves", "quiet", "(III)V"⟩ ∈ WG := wg (i := 613) (by decide +kernel) rfl
set_option maxRecDepth 100000 in
theorem w_580 : Cond.code ⟨"PlaceMoves", "quiet", "(III)V"⟩ prog_1_method_18_code 4 none ∈ WG := wg (i := 614) rfl rfl
theorem w_582 : Cond.methodLink "PlaceMoves" 184 ⟨"PlaceMoves$QuietTimes", "add", "(III)V"⟩ ∈ WG := wg (i := 616) (by decide +kernel) rfl
theorem w_583 : Cond.instanceMethod ⟨"PlaceMoves$QuietTimes", "add", "(III)V"⟩ ∈ WG := wg (i := 617) (by decide +kernel) rfl
theorem w_584 : Cond.selects "PlaceMoves$QuietTimes" ⟨"PlaceMoves$QuietTimes", "add", "(III)V"⟩ ⟨"PlaceMoves$QuietTimes", "add", "(III)V"⟩ ∈ WG := wg (i := 618) (by decide +kernel) rfl
set_option maxRecDepth 100000 in
theorem w_585 : Cond.code ⟨"PlaceMoves$QuietTimes", "add", "(III)V"⟩ prog_5_method_2_code 4 none ∈ WG := wg (i := 619) rfl rfl
theorem w_586 : Cond.methodLink "PlaceMovesLaw" 146 ⟨"PlaceMovesLaw", "count", "(LPlaceMoves;I[J)I"⟩ ∈ WG := wg (i := 620) (by decide +kernel) rfl
theorem w_587 : Cond.static ⟨"PlaceMovesLaw", "count", "(LPlaceMoves;I[J)I"⟩ ∈ WG := wg (i := 621) (by decide +kernel) rfl
theorem w_589 : Cond.methodLink "PlaceMovesLaw" 75 ⟨"PlaceMoves", "count", "(I)I"⟩ ∈ WG := wg (i := 623) (by decide +kernel) rfl
theorem w_590 : Cond.instanceMethod ⟨"PlaceMoves", "count", "(I)I"⟩ ∈ WG := wg (i := 624) (by decide +kernel) rfl
theorem w_591 : Cond.selects "PlaceMoves" ⟨"PlaceMoves", "count", "(I)I"⟩ ⟨"PlaceMoves", "count", "(I)I"⟩ ∈ WG := wg (i := 625) (by decide +kernel) rfl
set_option maxRecDepth 100000 in
theorem w_592 : Cond.code ⟨"PlaceMoves", "count", "(I)I"⟩ prog_1_method_19_code 2 (some FieldType.int) ∈ WG := wg (i := 626) rfl rfl
theorem w_594 : Cond.classLink "PlaceMovesLaw" 79 "PlaceMovesModel" ∈ WG := wg (i := 628) (by decide +kernel) rfl
theorem w_595 : Cond.instantiable "PlaceMovesModel" 32 ∈ WG := wg (i := 629) (by decide +kernel) rfl
theorem w_596 : Cond.methodLink "PlaceMovesLaw" 81 ⟨"PlaceMovesModel", "<init>", "()V"⟩ ∈ WG := wg (i := 630) (by decide +kernel) rfl
theorem w_597 : Cond.instanceMethod ⟨"PlaceMovesModel", "<init>", "()V"⟩ ∈ WG := wg (i := 631) (by decide +kernel) rfl
set_option maxRecDepth 100000 in
theorem w_598 : Cond.code ⟨"PlaceMovesModel", "<init>", "()V"⟩ prog_9_method_1_code 1 none ∈ WG := wg (i := 632) rfl rfl
theorem w_599 : Cond.methodLink "PlaceMovesModel" 1 ⟨"java/lang/Object", "<init>", "()V"⟩ ∈ WG := wg (i := 633) (by decide +kernel) rfl
theorem w_600 : Cond.fieldLink "PlaceMovesModel" 84 "PlaceMovesModel" "thrown" "I" ∈ WG := wg (i := 634) (by decide +kernel) rfl
theorem w_601 : Cond.fieldLink "PlaceMovesModel" 145 "PlaceMovesModel" "present" "I" ∈ WG := wg (i := 635) (by decide +kernel) rfl
theorem w_602 : Cond.fieldLink "PlaceMovesModel" 87 "PlaceMovesModel" "places" "I" ∈ WG := wg (i := 636) (by decide +kernel) rfl
theorem w_603 : Cond.fieldLink "PlaceMovesModel" 7 "PlaceMovesModel" "insides" "[I" ∈ WG := wg (i := 637) (by decide +kernel) rfl
theorem w_604 : Cond.fieldLink "PlaceMovesModel" 13 "PlaceMovesModel" "loads" "[I" ∈ WG := wg (i := 638) (by decide +kernel) rfl
theorem w_605 : Cond.fieldLink "PlaceMovesModel" 90 "PlaceMovesModel" "objects" "I" ∈ WG := wg (i := 639) (by decide +kernel) rfl
theorem w_606 : Cond.fieldLink "PlaceMovesModel" 16 "PlaceMovesModel" "sizes" "[I" ∈ WG := wg (i := 640) (by decide +kernel) rfl
theorem w_607 : Cond.fieldLink "PlaceMovesModel" 19 "PlaceMovesModel" "grams" "[I" ∈ WG := wg (i := 641) (by decide +kernel) rfl
theorem w_608 : Cond.fieldLink "PlaceMovesModel" 22 "PlaceMovesModel" "needed" "[I" ∈ WG := wg (i := 642) (by decide +kernel) rfl
theorem w_609 : Cond.fieldLink "PlaceMovesModel" 25 "PlaceMovesModel" "boxes" "[Z" ∈ WG := wg (i := 643) (by decide +kernel) rfl
theorem w_610 : Cond.fieldLink "PlaceMovesModel" 29 "PlaceMovesModel" "keys" "[Z" ∈ WG := wg (i := 644) (by decide +kernel) rfl
theorem w_611 : Cond.fieldLink "PlaceMovesModel" 32 "PlaceMovesModel" "many" "[I" ∈ WG := wg (i := 645) (by decide +kernel) rfl
theorem w_612 : Cond.fieldLink "PlaceMovesModel" 35 "PlaceMovesModel" "hours" "[I" ∈ WG := wg (i := 646) (by decide +kernel) rfl
theorem w_613 : Cond.fieldLink "PlaceMovesModel" 38 "PlaceMovesModel" "kinds" "[I" ∈ WG := wg (i := 647) (by decide +kernel) rfl
theorem w_614 : Cond.fieldLink "PlaceMovesModel" 41 "PlaceMovesModel" "whats" "[I" ∈ WG := wg (i := 648) (by decide +kernel) rfl
theorem w_615 : Cond.fieldLink "PlaceMovesModel" 170 "PlaceMovesModel" "doors" "I" ∈ WG := wg (i := 649) (by decide +kernel) rfl
theorem w_616 : Cond.fieldLink "PlaceMovesModel" 44 "PlaceMovesModel" "firsts" "[I" ∈ WG := wg (i := 650) (by decide +kernel) rfl
theorem w_617 : Cond.fieldLink "PlaceMovesModel" 47 "PlaceMovesModel" "seconds" "[I" ∈ WG := wg (i := 651) (by decide +kernel) rfl
theorem w_618 : Cond.fieldLink "PlaceMovesModel" 50 "PlaceMovesModel" "widths" "[I" ∈ WG := wg (i := 652) (by decide +kernel) rfl
theorem w_619 : Cond.fieldLink "PlaceMovesModel" 53 "PlaceMovesModel" "heights" "[I" ∈ WG := wg (i := 653) (by decide +kernel) rfl
theorem w_620 : Cond.fieldLink "PlaceMovesModel" 56 "PlaceMovesModel" "far" "[I" ∈ WG := wg (i := 654) (by decide +kernel) rfl
theorem w_621 : Cond.fieldLink "PlaceMovesModel" 123 "PlaceMovesModel" "plans" "I" ∈ WG := wg (i := 655) (by decide +kernel) rfl
theorem w_622 : Cond.fieldLink "PlaceMovesModel" 59 "PlaceMovesModel" "planObjects" "[I" ∈ WG := wg (i := 656) (by decide +kernel) rfl
theorem w_623 : Cond.fieldLink "PlaceMovesModel" 62 "PlaceMovesModel" "planPlaces" "[I" ∈ WG := wg (i := 657) (by decide +kernel) rfl
theorem w_624 : Cond.fieldLink "PlaceMovesModel" 65 "PlaceMovesModel" "planFroms" "[I" ∈ WG := wg (i := 658) (by decide +kernel) rfl
theorem w_625 : Cond.fieldLink "PlaceMovesModel" 68 "PlaceMovesModel" "planTos" "[I" ∈ WG := wg (i := 659) (by decide +kernel) rfl
theorem w_626 : Cond.fieldLink "PlaceMovesModel" 142 "PlaceMovesModel" "quiets" "I" ∈ WG := wg (i := 660) (by decide +kernel) rfl
theorem w_627 : Cond.fieldLink "PlaceMovesModel" 71 "PlaceMovesModel" "quietPlaces" "[I" ∈ WG := wg (i := 661) (by decide +kernel) rfl
theorem w_628 : Cond.fieldLink "PlaceMovesModel" 74 "PlaceMovesModel" "quietFroms" "[I" ∈ WG := wg (i := 662) (by decide +kernel) rfl
theorem w_629 : Cond.fieldLink "PlaceMovesModel" 77 "PlaceMovesModel" "quietTos" "[I" ∈ WG := wg (i := 663) (by decide +kernel) rfl
theorem w_630 : Cond.fieldLink "PlaceMovesModel" 80 "PlaceMovesModel" "thought" "I" ∈ WG := wg (i := 664) (by decide +kernel) rfl
theorem w_631 : Cond.fieldLink "PlaceMovesModel" 116 "PlaceMovesModel" "thoughtPlace" "I" ∈ WG := wg (i := 665) (by decide +kernel) rfl
theorem w_632 : Cond.lays "PlaceMovesModel" "PlaceMovesModel" "thrown" "I" ∈ WG := wg (i := 666) (by decide +kernel) rfl
theorem w_634 : Cond.lays "PlaceMovesModel" "PlaceMovesModel" "present" "I" ∈ WG := wg (i := 668) (by decide +kernel) rfl
theorem w_636 : Cond.lays "PlaceMovesModel" "PlaceMovesModel" "places" "I" ∈ WG := wg (i := 670) (by decide +kernel) rfl
theorem w_638 : Cond.laysFinal "PlaceMovesModel" "PlaceMovesModel" "insides" "[I" ∈ WG := wg (i := 672) (by decide +kernel) rfl
theorem w_640 : Cond.laysFinal "PlaceMovesModel" "PlaceMovesModel" "loads" "[I" ∈ WG := wg (i := 674) (by decide +kernel) rfl
theorem w_642 : Cond.lays "PlaceMovesModel" "PlaceMovesModel" "objects" "I" ∈ WG := wg (i := 676) (by decide +kernel) rfl
theorem w_644 : Cond.laysFinal "PlaceMovesModel" "PlaceMovesModel" "sizes" "[I" ∈ WG := wg (i := 678) (by decide +kernel) rfl
theorem w_646 : Cond.laysFinal "PlaceMovesModel" "PlaceMovesModel" "grams" "[I" ∈ WG := wg (i := 680) (by decide +kernel) rfl
theorem w_648 : Cond.laysFinal "PlaceMovesModel" "PlaceMovesModel" "needed" "[I" ∈ WG := wg (i := 682) (by decide +kernel) rfl
theorem w_650 : Cond.laysFinal "PlaceMovesModel" "PlaceMovesModel" "boxes" "[Z" ∈ WG := wg (i := 684) (by decide +kernel) rfl
theorem w_652 : Cond.laysFinal "PlaceMovesModel" "PlaceMovesModel" "keys" "[Z" ∈ WG := wg (i := 686) (by decide +kernel) rfl
theorem w_654 : Cond.laysFinal "PlaceMovesModel" "PlaceMovesModel" "many" "[I" ∈ WG := wg (i := 688) (by decide +kernel) rfl
theorem w_656 : Cond.laysFinal "PlaceMovesModel" "PlaceMovesModel" "hours" "[I" ∈ WG := wg (i := 690) (by decide +kernel) rfl
theorem w_658 : Cond.laysFinal "PlaceMovesModel" "PlaceMovesModel" "kinds" "[I" ∈ WG := wg (i := 692) (by decide +kernel) rfl
theorem w_660 : Cond.laysFinal "PlaceMovesModel" "PlaceMovesModel" "whats" "[I" ∈ WG := wg (i := 694) (by decide +kernel) rfl
theorem w_662 : Cond.lays "PlaceMovesModel" "PlaceMovesModel" "doors" "I" ∈ WG := wg (i := 696) (by decide +kernel) rfl
theorem w_664 : Cond.laysFinal "PlaceMovesModel" "PlaceMovesModel" "firsts" "[I" ∈ WG := wg (i := 698) (by decide +kernel) rfl
theorem w_666 : Cond.laysFinal "PlaceMovesModel" "PlaceMovesModel" "seconds" "[I" ∈ WG := wg (i := 700) (by decide +kernel) rfl
theorem w_668 : Cond.laysFinal "PlaceMovesModel" "PlaceMovesModel" "widths" "[I" ∈ WG := wg (i := 702) (by decide +kernel) rfl
theorem w_670 : Cond.laysFinal "PlaceMovesModel" "PlaceMovesModel" "heights" "[I" ∈ WG := wg (i := 704) (by decide +kernel) rfl
theorem w_672 : Cond.laysFinal "PlaceMovesModel" "PlaceMovesModel" "far" "[I" ∈ WG := wg (i := 706) (by decide +kernel) rfl
theorem w_674 : Cond.lays "PlaceMovesModel" "PlaceMovesModel" "plans" "I" ∈ WG := wg (i := 708) (by decide +kernel) rfl
theorem w_676 : Cond.laysFinal "PlaceMovesModel" "PlaceMovesModel" "planObjects" "[I" ∈ WG := wg (i := 710) (by decide +kernel) rfl
theorem w_678 : Cond.laysFinal "PlaceMovesModel" "PlaceMovesModel" "planPlaces" "[I" ∈ WG := wg (i := 712) (by decide +kernel) rfl
theorem w_680 : Cond.laysFinal "PlaceMovesModel" "PlaceMovesModel" "planFroms" "[I" ∈ WG := wg (i := 714) (by decide +kernel) rfl
theorem w_682 : Cond.laysFinal "PlaceMovesModel" "PlaceMovesModel" "planTos" "[I" ∈ WG := wg (i := 716) (by decide +kernel) rfl
theorem w_684 : Cond.lays "PlaceMovesModel" "PlaceMovesModel" "quiets" "I" ∈ WG := wg (i := 718) (by decide +kernel) rfl
theorem w_686 : Cond.laysFinal "PlaceMovesModel" "PlaceMovesModel" "quietPlaces" "[I" ∈ WG := wg (i := 720) (by decide +kernel) rfl
theorem w_688 : Cond.laysFinal "PlaceMovesModel" "PlaceMovesModel" "quietFroms" "[I" ∈ WG := wg (i := 722) (by decide +kernel) rfl
theorem w_690 : Cond.laysFinal "PlaceMovesModel" "PlaceMovesModel" "quietTos" "[I" ∈ WG := wg (i := 724) (by decide +kernel) rfl
theorem w_692 : Cond.lays "PlaceMovesModel" "PlaceMovesModel" "thought" "I" ∈ WG := wg (i := 726) (by decide +kernel) rfl
theorem w_694 : Cond.lays "PlaceMovesModel" "PlaceMovesModel" "thoughtPlace" "I" ∈ WG := wg (i := 728) (by decide +kernel) rfl
theorem w_696 : Cond.superclass "PlaceMovesModel" "java/lang/Object" ∈ WG := wg (i := 730) (by decide +kernel) rfl
theorem w_697 : Cond.methodLink "PlaceMovesLaw" 88 ⟨"PlaceMovesModel", "thrown", "()I"⟩ ∈ WG := wg (i := 731) (by decide +kernel) rfl
theorem w_698 : Cond.instanceMethod ⟨"PlaceMovesModel", "thrown", "()I"⟩ ∈ WG := wg (i := 732) (by decide +kernel) rfl
theorem w_699 : Cond.selects "PlaceMovesModel" ⟨"PlaceMovesModel", "thrown", "()I"⟩ ⟨"PlaceMovesModel", "thrown", "()I"⟩ ∈ WG := wg (i := 733) (by decide +kernel) rfl
set_option maxRecDepth 100000 in
theorem w_700 : Cond.code ⟨"PlaceMovesModel", "thrown", "()I"⟩ prog_9_method_2_code 1 (some FieldType.int) ∈ WG := wg (i := 734) rfl rfl
theorem w_701 : Cond.methodLink "PlaceMovesLaw" 87 ⟨"PlaceMovesModel", "place", "(II)I"⟩ ∈ WG := wg (i := 735) (by decide +kernel) rfl
theorem w_702 : Cond.instanceMethod ⟨"PlaceMovesModel", "place", "(II)I"⟩ ∈ WG := wg (i := 736) (by decide +kernel) rfl
theorem w_703 : Cond.selects "PlaceMovesModel" ⟨"PlaceMovesModel", "place", "(II)I"⟩ ⟨"PlaceMovesModel", "place", "(II)I"⟩ ∈ WG := wg (i := 737) (by decide +kernel) rfl
set_option maxRecDepth 100000 in
theorem w_704 : Cond.code ⟨"PlaceMovesModel", "place", "(II)I"⟩ prog_9_method_8_code 3 (some FieldType.int) ∈ WG := wg (i := 738) rfl rfl
theorem w_705 : Cond.methodLink "PlaceMovesModel" 93 ⟨"PlaceMovesModel", "isPlace", "(I)Z"⟩ ∈ WG := wg (i := 739) (by decide +kernel) rfl
theorem w_707 : Cond.instanceMethod ⟨"PlaceMovesModel", "isPlace", "(I)Z"⟩ ∈ WG := wg (i := 741) (by decide +kernel) rfl
set_option maxRecDepth 100000 in
theorem w_708 : Cond.code ⟨"PlaceMovesModel", "isPlace", "(I)Z"⟩ prog_9_method_5_code 2 (some FieldType.boolean) ∈ WG := wg (i := 742) rfl rfl
theorem w_709 : Cond.constant "PlaceMovesModel" 97 (1000000000) ∈ WG := wg (i := 743) (by decide +kernel) rfl
theorem w_710 : Cond.methodLink "PlaceMovesModel" 98 ⟨"PlaceMovesModel", "within", "(III)Z"⟩ ∈ WG := wg (i := 744) (by decide +kernel) rfl
theorem w_711 : Cond.static ⟨"PlaceMovesModel", "within", "(III)Z"⟩ ∈ WG := wg (i := 745) (by decide +kernel) rfl
set_option maxRecDepth 100000 in
theorem w_712 : Cond.code ⟨"PlaceMovesModel", "within", "(III)Z"⟩ prog_9_method_4_code 3 (some FieldType.boolean) ∈ WG := wg (i := 746) rfl rfl
theorem w_713 : Cond.methodLink "PlaceMovesModel" 102 ⟨"PlaceMovesModel", "goes", "(ZZZ)Z"⟩ ∈ WG := wg (i := 747) (by decide +kernel) rfl
theorem w_715 : Cond.instanceMethod ⟨"PlaceMovesModel", "goes", "(ZZZ)Z"⟩ ∈ WG := wg (i := 749) (by decide +kernel) rfl
set_option maxRecDepth 100000 in
theorem w_716 : Cond.code ⟨"PlaceMovesModel", "goes", "(ZZZ)Z"⟩ prog_9_method_3_code 4 (some FieldType.boolean) ∈ WG := wg (i := 750) rfl rfl
theorem w_717 : Cond.methodLink "PlaceMovesLaw" 95 ⟨"PlaceMovesModel", "object", "(IIII)I"⟩ ∈ WG := wg (i := 751) (by decide +kernel) rfl
theorem w_718 : Cond.instanceMethod ⟨"PlaceMovesModel", "object", "(IIII)I"⟩ ∈ WG := wg (i := 752) (by decide +kernel) rfl
theorem w_719 : Cond.selects "PlaceMovesModel" ⟨"PlaceMovesModel", "object", "(IIII)I"⟩ ⟨"PlaceMovesModel", "object", "(IIII)I"⟩ ∈ WG := wg (i := 753) (by decide +kernel) rfl
set_option maxRecDepth 100000 in
theorem w_720 : Cond.code ⟨"PlaceMovesModel", "object", "(IIII)I"⟩ prog_9_method_10_code 5 (some FieldType.int) ∈ WG := wg (i := 754) rfl rfl
theorem w_721 : Cond.methodLink "PlaceMovesModel" 106 ⟨"PlaceMovesModel", "isSize", "(I)Z"⟩ ∈ WG := wg (i := 755) (by decide +kernel) rfl
theorem w_722 : Cond.static ⟨"PlaceMovesModel", "isSize", "(I)Z"⟩ ∈ WG := wg (i := 756) (by decide +kernel) rfl
set_option maxRecDepth 100000 in
theorem w_723 : Cond.code ⟨"PlaceMovesModel", "isSize", "(I)Z"⟩ prog_9_method_9_code 1 (some FieldType.boolean) ∈ WG := wg (i := 757) rfl rfl
theorem w_724 : Cond.constant "PlaceMovesModel" 109 (1000000) ∈ WG := wg (i := 758) (by decide +kernel) rfl
theorem w_725 : Cond.methodLink "PlaceMovesLaw" 98 ⟨"PlaceMovesModel", "keys", "(II)I"⟩ ∈ WG := wg (i := 759) (by decide +kernel) rfl
theorem w_726 : Cond.instanceMethod ⟨"PlaceMovesModel", "keys", "(II)I"⟩ ∈ WG := wg (i := 760) (by decide +kernel) rfl
theorem w_727 : Cond.selects "PlaceMovesModel" ⟨"PlaceMovesModel", "keys", "(II)I"⟩ ⟨"PlaceMovesModel", "keys", "(II)I"⟩ ∈ WG := wg (i := 761) (by decide +kernel) rfl
set_option maxRecDepth 100000 in
theorem w_728 : Cond.code ⟨"PlaceMovesModel", "keys", "(II)I"⟩ prog_9_method_11_code 4 (some FieldType.int) ∈ WG := wg (i := 762) rfl rfl
theorem w_729 : Cond.methodLink "PlaceMovesModel" 110 ⟨"PlaceMovesModel", "isObject", "(I)Z"⟩ ∈ WG := wg (i := 763) (by decide +kernel) rfl
theorem w_731 : Cond.instanceMethod ⟨"PlaceMovesModel", "isObject", "(I)Z"⟩ ∈ WG := wg (i := 765) (by decide +kernel) rfl
set_option maxRecDepth 100000 in
theorem w_732 : Cond.code ⟨"PlaceMovesModel", "isObject", "(I)Z"⟩ prog_9_method_6_code 2 (some FieldType.boolean) ∈ WG := wg (i := 766) rfl rfl
theorem w_733 : Cond.methodLink "PlaceMovesLaw" 102 ⟨"PlaceMovesModel", "key", "(IZ)Z"⟩ ∈ WG := wg (i := 767) (by decide +kernel) rfl
theorem w_734 : Cond.instanceMethod ⟨"PlaceMovesModel", "key", "(IZ)Z"⟩ ∈ WG := wg (i := 768) (by decide +kernel) rfl
theorem w_735 : Cond.selects "PlaceMovesModel" ⟨"PlaceMovesModel", "key", "(IZ)Z"⟩ ⟨"PlaceMovesModel", "key", "(IZ)Z"⟩ ∈ WG := wg (i := 769) (by decide +kernel) rfl
set_option maxRecDepth 100000 in
theorem w_736 : Cond.code ⟨"PlaceMovesModel", "key", "(IZ)Z"⟩ prog_9_method_12_code 4 (some FieldType.boolean) ∈ WG := wg (i := 770) rfl rfl
theorem w_737 : Cond.methodLink "PlaceMovesModel" 113 ⟨"PlaceMovesModel", "isPerson", "(I)Z"⟩ ∈ WG := wg (i := 771) (by decide +kernel) rfl
theorem w_738 : Cond.static ⟨"PlaceMovesModel", "isPerson", "(I)Z"⟩ ∈ WG := wg (i := 772) (by decide +kernel) rfl
set_option maxRecDepth 100000 in
theorem w_739 : Cond.code ⟨"PlaceMovesModel", "isPerson", "(I)Z"⟩ prog_9_method_7_code 1 (some FieldType.boolean) ∈ WG := wg (i := 773) rfl rfl
theorem w_740 : Cond.methodLink "PlaceMovesLaw" 106 ⟨"PlaceMovesModel", "box", "(I)Z"⟩ ∈ WG := wg (i := 774) (by decide +kernel) rfl
theorem w_741 : Cond.instanceMethod ⟨"PlaceMovesModel", "box", "(I)Z"⟩ ∈ WG := wg (i := 775) (by decide +kernel) rfl
theorem w_742 : Cond.selects "PlaceMovesModel" ⟨"PlaceMovesModel", "box", "(I)Z"⟩ ⟨"PlaceMovesModel", "box", "(I)Z"⟩ ∈ WG := wg (i := 776) (by decide +kernel) rfl
set_option maxRecDepth 100000 in
theorem w_743 : Cond.code ⟨"PlaceMovesModel", "box", "(I)Z"⟩ prog_9_method_13_code 3 (some FieldType.boolean) ∈ WG := wg (i := 777) rfl rfl
theorem w_744 : Cond.methodLink "PlaceMovesLaw" 110 ⟨"PlaceMovesModel", "move", "(IIIII)I"⟩ ∈ WG := wg (i := 778) (by decide +kernel) rfl
theorem w_745 : Cond.instanceMethod ⟨"PlaceMovesModel", "move", "(IIIII)I"⟩ ∈ WG := wg (i := 779) (by decide +kernel) rfl
theorem w_746 : Cond.selects "PlaceMovesModel" ⟨"PlaceMovesModel", "move", "(IIIII)I"⟩ ⟨"PlaceMovesModel", "move", "(IIIII)I"⟩ ∈ WG := wg (i := 780) (by decide +kernel) rfl
set_option maxRecDepth 100000 in
theorem w_747 : Cond.code ⟨"PlaceMovesModel", "move", "(IIIII)I"⟩ prog_9_method_24_code 7 (some FieldType.int) ∈ WG := wg (i := 781) rfl rfl
theorem w_748 : Cond.methodLink "PlaceMovesModel" 148 ⟨"PlaceMovesModel", "mayOpen", "(III)Z"⟩ ∈ WG := wg (i := 782) (by decide +kernel) rfl
theorem w_750 : Cond.instanceMethod ⟨"PlaceMovesModel", "mayOpen", "(III)Z"⟩ ∈ WG := wg (i := 784) (by decide +kernel) rfl
set_option maxRecDepth 100000 in
theorem w_751 : Cond.code ⟨"PlaceMovesModel", "mayOpen", "(III)Z"⟩ prog_9_method_23_code 4 (some FieldType.boolean) ∈ WG := wg (i := 785) rfl rfl
theorem w_752 : Cond.methodLink "PlaceMovesModel" 130 ⟨"PlaceMovesModel", "at", "(II)I"⟩ ∈ WG := wg (i := 786) (by decide +kernel) rfl
theorem w_754 : Cond.instanceMethod ⟨"PlaceMovesModel", "at", "(II)I"⟩ ∈ WG := wg (i := 788) (by decide +kernel) rfl
set_option maxRecDepth 100000 in
theorem w_755 : Cond.code ⟨"PlaceMovesModel", "at", "(II)I"⟩ prog_9_method_15_code 6 (some FieldType.int) ∈ WG := wg (i := 789) rfl rfl
theorem w_756 : Cond.methodLink "PlaceMovesModel" 119 ⟨"PlaceMovesModel", "rowAt", "(II)I"⟩ ∈ WG := wg (i := 790) (by decide +kernel) rfl
theorem w_758 : Cond.instanceMethod ⟨"PlaceMovesModel", "rowAt", "(II)I"⟩ ∈ WG := wg (i := 792) (by decide +kernel) rfl
set_option maxRecDepth 100000 in
theorem w_759 : Cond.code ⟨"PlaceMovesModel", "rowAt", "(II)I"⟩ prog_9_method_14_code 5 (some FieldType.int) ∈ WG := wg (i := 793) rfl rfl
theorem w_760 : Cond.methodLink "PlaceMovesModel" 151 ⟨"PlaceMovesModel", "barred", "(III)Z"⟩ ∈ WG := wg (i := 794) (by decide +kernel) rfl
theorem w_762 : Cond.instanceMethod ⟨"PlaceMovesModel", "barred", "(III)Z"⟩ ∈ WG := wg (i := 796) (by decide +kernel) rfl
set_option maxRecDepth 100000 in
theorem w_763 : Cond.code ⟨"PlaceMovesModel", "barred", "(III)Z"⟩ prog_9_method_21_code 5 (some FieldType.boolean) ∈ WG := wg (i := 797) rfl rfl
theorem w_764 : Cond.methodLink "PlaceMovesModel" 126 ⟨"PlaceMovesModel", "lies", "(II)Z"⟩ ∈ WG := wg (i := 798) (by decide +kernel) rfl
theorem w_766 : Cond.instanceMethod ⟨"PlaceMovesModel", "lies", "(II)Z"⟩ ∈ WG := wg (i := 800) (by decide +kernel) rfl
set_option maxRecDepth 100000 in
theorem w_767 : Cond.code ⟨"PlaceMovesModel", "lies", "(II)Z"⟩ prog_9_method_16_code 4 (some FieldType.boolean) ∈ WG := wg (i := 801) rfl rfl
theorem w_768 : Cond.methodLink "PlaceMovesModel" 154 ⟨"PlaceMovesModel", "mayCome", "(III)Z"⟩ ∈ WG := wg (i := 802) (by decide +kernel) rfl
theorem w_770 : Cond.instanceMethod ⟨"PlaceMovesModel", "mayCome", "(III)Z"⟩ ∈ WG := wg (i := 804) (by decide +kernel) rfl
set_option maxRecDepth 100000 in
theorem w_771 : Cond.code ⟨"PlaceMovesModel", "mayCome", "(III)Z"⟩ prog_9_method_20_code 6 (some FieldType.boolean) ∈ WG := wg (i := 805) rfl rfl
theorem w_772 : Cond.methodLink "PlaceMovesModel" 139 ⟨"PlaceMovesModel", "bears", "(II)Z"⟩ ∈ WG := wg (i := 806) (by decide +kernel) rfl
theorem w_774 : Cond.instanceMethod ⟨"PlaceMovesModel", "bears", "(II)Z"⟩ ∈ WG := wg (i := 808) (by decide +kernel) rfl
set_option maxRecDepth 100000 in
theorem w_775 : Cond.code ⟨"PlaceMovesModel", "bears", "(II)Z"⟩ prog_9_method_19_code 5 (some FieldType.boolean) ∈ WG := wg (i := 809) rfl rfl
theorem w_776 : Cond.methodLink "PlaceMovesModel" 136 ⟨"PlaceMovesModel", "weight", "(II)I"⟩ ∈ WG := wg (i := 810) (by decide +kernel) rfl
theorem w_778 : Cond.instanceMethod ⟨"PlaceMovesModel", "weight", "(II)I"⟩ ∈ WG := wg (i := 812) (by decide +kernel) rfl
set_option maxRecDepth 100000 in
theorem w_779 : Cond.code ⟨"PlaceMovesModel", "weight", "(II)I"⟩ prog_9_method_18_code 5 (some FieldType.int) ∈ WG := wg (i := 813) rfl rfl
theorem w_780 : Cond.methodLink "PlaceMovesModel" 133 ⟨"PlaceMovesModel", "isPlanned", "(III)Z"⟩ ∈ WG := wg (i := 814) (by decide +kernel) rfl
theorem w_782 : Cond.instanceMethod ⟨"PlaceMovesModel", "isPlanned", "(III)Z"⟩ ∈ WG := wg (i := 816) (by decide +kernel) rfl
set_option maxRecDepth 100000 in
theorem w_783 : Cond.code ⟨"PlaceMovesModel", "isPlanned", "(III)Z"⟩ prog_9_method_17_code 5 (some FieldType.boolean) ∈ WG := wg (i := 817) rfl rfl
theorem w_784 : Cond.methodLink "PlaceMovesModel" 157 ⟨"PlaceMovesModel", "row", "(IIII)V"⟩ ∈ WG := wg (i := 818) (by decide +kernel) rfl
theorem w_786 : Cond.instanceMethod ⟨"PlaceMovesModel", "row", "(IIII)V"⟩ ∈ WG := wg (i := 820) (by decide +kernel) rfl
set_option maxRecDepth 100000 in
theorem w_787 : Cond.code ⟨"PlaceMovesModel", "row", "(IIII)V"⟩ prog_9_method_22_code 6 none ∈ WG := wg (i := 821) rfl rfl
theorem w_788 : Cond.methodLink "PlaceMovesLaw" 114 ⟨"PlaceMovesModel", "into", "(III)I"⟩ ∈ WG := wg (i := 822) (by decide +kernel) rfl
theorem w_789 : Cond.instanceMethod ⟨"PlaceMovesModel", "into", "(III)I"⟩ ∈ WG := wg (i := 823) (by decide +kernel) rfl
theorem w_790 : Cond.selects "PlaceMovesModel" ⟨"PlaceMovesModel", "into", "(III)I"⟩ ⟨"PlaceMovesModel", "into", "(III)I"⟩ ∈ WG := wg (i := 824) (by decide +kernel) rfl
set_option maxRecDepth 100000 in
theorem w_791 : Cond.code ⟨"PlaceMovesModel", "into", "(III)I"⟩ prog_9_method_28_code 7 (some FieldType.int) ∈ WG := wg (i := 825) rfl rfl
theorem w_792 : Cond.methodLink "PlaceMovesModel" 164 ⟨"PlaceMovesModel", "holds", "(III)Z"⟩ ∈ WG := wg (i := 826) (by decide +kernel) rfl
theorem w_794 : Cond.instanceMethod ⟨"PlaceMovesModel", "holds", "(III)Z"⟩ ∈ WG := wg (i := 828) (by decide +kernel) rfl
set_option maxRecDepth 100000 in
theorem w_795 : Cond.code ⟨"PlaceMovesModel", "holds", "(III)Z"⟩ prog_9_method_25_code 7 (some FieldType.boolean) ∈ WG := wg (i := 829) rfl rfl
theorem w_796 : Cond.methodLink "PlaceMovesModel" 167 ⟨"PlaceMovesModel", "fits", "(II)Z"⟩ ∈ WG := wg (i := 830) (by decide +kernel) rfl
theorem w_798 : Cond.instanceMethod ⟨"PlaceMovesModel", "fits", "(II)Z"⟩ ∈ WG := wg (i := 832) (by decide +kernel) rfl
set_option maxRecDepth 100000 in
theorem w_799 : Cond.code ⟨"PlaceMovesModel", "fits", "(II)Z"⟩ prog_9_method_27_code 3 (some FieldType.boolean) ∈ WG := wg (i := 833) rfl rfl
theorem w_800 : Cond.methodLink "PlaceMovesModel" 161 ⟨"PlaceMovesModel", "size", "(II)I"⟩ ∈ WG := wg (i := 834) (by decide +kernel) rfl
theorem w_802 : Cond.instanceMethod ⟨"PlaceMovesModel", "size", "(II)I"⟩ ∈ WG := wg (i := 836) (by decide +kernel) rfl
set_option maxRecDepth 100000 in
theorem w_803 : Cond.code ⟨"PlaceMovesModel", "size", "(II)I"⟩ prog_9_method_26_code 8 (some FieldType.int) ∈ WG := wg (i := 837) rfl rfl
theorem w_804 : Cond.methodLink "PlaceMovesLaw" 117 ⟨"PlaceMovesModel", "lost", "(II)Z"⟩ ∈ WG := wg (i := 838) (by decide +kernel) rfl
theorem w_805 : Cond.instanceMethod ⟨"PlaceMovesModel", "lost", "(II)Z"⟩ ∈ WG := wg (i := 839) (by decide +kernel) rfl
theorem w_806 : Cond.selects "PlaceMovesModel" ⟨"PlaceMovesModel", "lost", "(II)Z"⟩ ⟨"PlaceMovesModel", "lost", "(II)Z"⟩ ∈ WG := wg (i := 840) (by decide +kernel) rfl
set_option maxRecDepth 100000 in
theorem w_807 : Cond.code ⟨"PlaceMovesModel", "lost", "(II)Z"⟩ prog_9_method_29_code 6 (some FieldType.boolean) ∈ WG := wg (i := 841) rfl rfl
theorem w_808 : Cond.methodLink "PlaceMovesLaw" 120 ⟨"PlaceMovesModel", "where", "(II)I"⟩ ∈ WG := wg (i := 842) (by decide +kernel) rfl
theorem w_809 : Cond.instanceMethod ⟨"PlaceMovesModel", "where", "(II)I"⟩ ∈ WG := wg (i := 843) (by decide +kernel) rfl
theorem w_810 : Cond.selects "PlaceMovesModel" ⟨"PlaceMovesModel", "where", "(II)I"⟩ ⟨"PlaceMovesModel", "where", "(II)I"⟩ ∈ WG := wg (i := 844) (by decide +kernel) rfl
set_option maxRecDepth 100000 in
theorem w_811 : Cond.code ⟨"PlaceMovesModel", "where", "(II)I"⟩ prog_9_method_30_code 3 (some FieldType.int) ∈ WG := wg (i := 845) rfl rfl
theorem w_812 : Cond.methodLink "PlaceMovesLaw" 123 ⟨"PlaceMovesModel", "last", "(I)I"⟩ ∈ WG := wg (i := 846) (by decide +kernel) rfl
theorem w_813 : Cond.instanceMethod ⟨"PlaceMovesModel", "last", "(I)I"⟩ ∈ WG := wg (i := 847) (by decide +kernel) rfl
theorem w_814 : Cond.selects "PlaceMovesModel" ⟨"PlaceMovesModel", "last", "(I)I"⟩ ⟨"PlaceMovesModel", "last", "(I)I"⟩ ∈ WG := wg (i := 848) (by decide +kernel) rfl
set_option maxRecDepth 100000 in
theorem w_815 : Cond.code ⟨"PlaceMovesModel", "last", "(I)I"⟩ prog_9_method_31_code 7 (some FieldType.int) ∈ WG := wg (i := 849) rfl rfl
theorem w_816 : Cond.methodLink "PlaceMovesLaw" 126 ⟨"PlaceMovesModel", "history", "(III)I"⟩ ∈ WG := wg (i := 850) (by decide +kernel) rfl
theorem w_817 : Cond.instanceMethod ⟨"PlaceMovesModel", "history", "(III)I"⟩ ∈ WG := wg (i := 851) (by decide +kernel) rfl
theorem w_818 : Cond.selects "PlaceMovesModel" ⟨"PlaceMovesModel", "history", "(III)I"⟩ ⟨"PlaceMovesModel", "history", "(III)I"⟩ ∈ WG := wg (i := 852) (by decide +kernel) rfl
set_option maxRecDepth 100000 in
theorem w_819 : Cond.code ⟨"PlaceMovesModel", "history", "(III)I"⟩ prog_9_method_32_code 5 (some FieldType.int) ∈ WG := wg (i := 853) rfl rfl
theorem w_820 : Cond.methodLink "PlaceMovesLaw" 129 ⟨"PlaceMovesModel", "door", "(IIII)I"⟩ ∈ WG := wg (i := 854) (by decide +kernel) rfl
theorem w_821 : Cond.instanceMethod ⟨"PlaceMovesModel", "door", "(IIII)I"⟩ ∈ WG := wg (i := 855) (by decide +kernel) rfl
theorem w_822 : Cond.selects "PlaceMovesModel" ⟨"PlaceMovesModel", "door", "(IIII)I"⟩ ⟨"PlaceMovesModel", "door", "(IIII)I"⟩ ∈ WG := wg (i := 856) (by decide +kernel) rfl
set_option maxRecDepth 100000 in
theorem w_823 : Cond.code ⟨"PlaceMovesModel", "door", "(IIII)I"⟩ prog_9_method_33_code 5 (some FieldType.int) ∈ WG := wg (i := 857) rfl rfl
theorem w_824 : Cond.methodLink "PlaceMovesLaw" 132 ⟨"PlaceMovesModel", "passes", "(II)Z"⟩ ∈ WG := wg (i := 858) (by decide +kernel) rfl
theorem w_825 : Cond.instanceMethod ⟨"PlaceMovesModel", "passes", "(II)Z"⟩ ∈ WG := wg (i := 859) (by decide +kernel) rfl
theorem w_826 : Cond.selects "PlaceMovesModel" ⟨"PlaceMovesModel", "passes", "(II)Z"⟩ ⟨"PlaceMovesModel", "passes", "(II)Z"⟩ ∈ WG := wg (i := 860) (by decide +kernel) rfl
set_option maxRecDepth 100000 in
theorem w_827 : Cond.code ⟨"PlaceMovesModel", "passes", "(II)Z"⟩ prog_9_method_36_code 3 (some FieldType.boolean) ∈ WG := wg (i := 861) rfl rfl
theorem w_828 : Cond.methodLink "PlaceMovesModel" 179 ⟨"PlaceMovesModel", "through", "(II)Z"⟩ ∈ WG := wg (i := 862) (by decide +kernel) rfl
theorem w_830 : Cond.instanceMethod ⟨"PlaceMovesModel", "through", "(II)Z"⟩ ∈ WG := wg (i := 864) (by decide +kernel) rfl
set_option maxRecDepth 100000 in
theorem w_831 : Cond.code ⟨"PlaceMovesModel", "through", "(II)Z"⟩ prog_9_method_35_code 6 (some FieldType.boolean) ∈ WG := wg (i := 865) rfl rfl
theorem w_832 : Cond.methodLink "PlaceMovesModel" 175 ⟨"PlaceMovesModel", "face", "(JJJJ)Z"⟩ ∈ WG := wg (i := 866) (by decide +kernel) rfl
theorem w_833 : Cond.static ⟨"PlaceMovesModel", "face", "(JJJJ)Z"⟩ ∈ WG := wg (i := 867) (by decide +kernel) rfl
set_option maxRecDepth 100000 in
theorem w_834 : Cond.code ⟨"PlaceMovesModel", "face", "(JJJJ)Z"⟩ prog_9_method_34_code 19 (some FieldType.boolean) ∈ WG := wg (i := 868) rfl rfl
theorem w_835 : Cond.constantLong "PlaceMovesModel" 173 (2) ∈ WG := wg (i := 869) (by decide +kernel) rfl
theorem w_836 : Cond.methodLink "PlaceMovesLaw" 135 ⟨"PlaceMovesModel", "way", "(II)I"⟩ ∈ WG := wg (i := 870) (by decide +kernel) rfl
theorem w_837 : Cond.instanceMethod ⟨"PlaceMovesModel", "way", "(II)I"⟩ ∈ WG := wg (i := 871) (by decide +kernel) rfl
theorem w_838 : Cond.selects "PlaceMovesModel" ⟨"PlaceMovesModel", "way", "(II)I"⟩ ⟨"PlaceMovesModel", "way", "(II)I"⟩ ∈ WG := wg (i := 872) (by decide +kernel) rfl
set_option maxRecDepth 100000 in
theorem w_839 : Cond.code ⟨"PlaceMovesModel", "way", "(II)I"⟩ prog_9_method_37_code 9 (some FieldType.int) ∈ WG := wg (i := 873) rfl rfl
theorem w_840 : Cond.methodLink "PlaceMovesLaw" 138 ⟨"PlaceMovesModel", "planned", "(IIII)I"⟩ ∈ WG := wg (i := 874) (by decide +kernel) rfl
theorem w_841 : Cond.instanceMethod ⟨"PlaceMovesModel", "planned", "(IIII)I"⟩ ∈ WG := wg (i := 875) (by decide +kernel) rfl
theorem w_842 : Cond.selects "PlaceMovesModel" ⟨"PlaceMovesModel", "planned", "(IIII)I"⟩ ⟨"PlaceMovesModel", "planned", "(IIII)I"⟩ ∈ WG := wg (i := 876) (by decide +kernel) rfl
set_option maxRecDepth 100000 in
theorem w_843 : Cond.code ⟨"PlaceMovesModel", "planned", "(IIII)I"⟩ prog_9_method_38_code 7 (some FieldType.int) ∈ WG := wg (i := 877) rfl rfl
theorem w_844 : Cond.methodLink "PlaceMovesLaw" 141 ⟨"PlaceMovesModel", "used", "(II)I"⟩ ∈ WG := wg (i := 878) (by decide +kernel) rfl
theorem w_845 : Cond.instanceMethod ⟨"PlaceMovesModel", "used", "(II)I"⟩ ∈ WG := wg (i := 879) (by decide +kernel) rfl
theorem w_846 : Cond.selects "PlaceMovesModel" ⟨"PlaceMovesModel", "used", "(II)I"⟩ ⟨"PlaceMovesModel", "used", "(II)I"⟩ ∈ WG := wg (i := 880) (by decide +kernel) rfl
set_option maxRecDepth 100000 in
theorem w_847 : Cond.code ⟨"PlaceMovesModel", "used", "(II)I"⟩ prog_9_method_39_code 3 (some FieldType.int) ∈ WG := wg (i := 881) rfl rfl
theorem w_848 : Cond.methodLink "PlaceMovesLaw" 145 ⟨"PlaceMovesModel", "quiet", "(III)V"⟩ ∈ WG := wg (i := 882) (by decide +kernel) rfl
theorem w_849 : Cond.instanceMethod ⟨"PlaceMovesModel", "quiet", "(III)V"⟩ ∈ WG := wg (i := 883) (by decide +kernel) rfl
theorem w_850 : Cond.selects "PlaceMovesModel" ⟨"PlaceMovesModel", "quiet", "(III)V"⟩ ⟨"PlaceMovesModel", "quiet", "(III)V"⟩ ∈ WG := wg (i := 884) (by decide +kernel) rfl
set_option maxRecDepth 100000 in
theorem w_851 : Cond.code ⟨"PlaceMovesModel", "quiet", "(III)V"⟩ prog_9_method_40_code 4 none ∈ WG := wg (i := 885) rfl rfl
theorem w_852 : Cond.methodLink "PlaceMovesLaw" 148 ⟨"PlaceMovesModel", "count", "(I)I"⟩ ∈ WG := wg (i := 886) (by decide +kernel) rfl
theorem w_853 : Cond.instanceMethod ⟨"PlaceMovesModel", "count", "(I)I"⟩ ∈ WG := wg (i := 887) (by decide +kernel) rfl
theorem w_854 : Cond.selects "PlaceMovesModel" ⟨"PlaceMovesModel", "count", "(I)I"⟩ ⟨"PlaceMovesModel", "count", "(I)I"⟩ ∈ WG := wg (i := 888) (by decide +kernel) rfl
set_option maxRecDepth 100000 in
theorem w_855 : Cond.code ⟨"PlaceMovesModel", "count", "(I)I"⟩ prog_9_method_41_code 4 (some FieldType.int) ∈ WG := wg (i := 889) rfl rfl
theorem w_856 : Cond.arrayClass FieldType.long ∈ WG := wg (i := 890) (by decide +kernel) rfl
end
section
def F_PM : u_T := fun k => match k with
  | 0 => ("PlaceMoves", "places", "LPlaceMoves$Places;", true)
  | 1 => ("PlaceMoves", "things", "LPlaceMoves$Things;", true)
  | 2 => ("PlaceMoves", "rows", "LPlaceMoves$Rows;", true)
  | 3 => ("PlaceMoves", "doors", "LPlaceMoves$Doors;", true)
  | 4 => ("PlaceMoves", "plans", "LPlaceMoves$Plans;", true)
  | 5 => ("PlaceMoves", "quietTimes", "LPlaceMoves$QuietTimes;", true)
  | 6 => ("PlaceMoves", "hasKey", "[Z", true)
  | 7 => ("PlaceMoves", "burdened", "[I", true)
  | _ => ("PlaceMoves", "present", "I", false)
def t_PM : Nat → FieldType := fun k => match k with
  | 0 => .object "PlaceMoves$Places"
  | 1 => .object "PlaceMoves$Things"
  | 2 => .object "PlaceMoves$Rows"
  | 3 => .object "PlaceMoves$Doors"
  | 4 => .object "PlaceMoves$Plans"
  | 5 => .object "PlaceMoves$QuietTimes"
  | 6 => .array .boolean
  | 7 => .array .int
  | _ => .int
theorem n_PM : ∀ a, a < 9 → ∀ b, b < 9 → a ≠ b → (F_PM a).2.1 ≠ (F_PM b).2.1 := by decide +kernel
theorem t_PM_ok : ∀ k, k < 9 → parseFieldDescriptor (F_PM k).2.2.1 = some (t_PM k) := by decide +kernel
theorem i_PM : ∀ w ∈ u_ws "PlaceMoves" F_PM 9, w ∈ WG := by
  intro w hw
  obtain ⟨k, hk, rfl⟩ := List.mem_map.mp hw
  have hk := List.mem_range.mp hk
  match k, hk with
  | 0, _ => exact w_185
  | 1, _ => exact w_187
  | 2, _ => exact w_189
  | 3, _ => exact w_191
  | 4, _ => exact w_193
  | 5, _ => exact w_195
  | 6, _ => exact w_197
  | 7, _ => exact w_199
  | 8, _ => exact w_201
  | k + 9, h => exact absurd h (by omega)
def F_Places : u_T := fun k => match k with
  | 0 => ("PlaceMoves$Places", "load", "[I", true)
  | 1 => ("PlaceMoves$Places", "around", "[I", true)
  | _ => ("PlaceMoves$Places", "size", "I", false)
def t_Places : Nat → FieldType := fun k => match k with
  | 0 => .array .int
  | 1 => .array .int
  | _ => .int
theorem n_Places : ∀ a, a < 3 → ∀ b, b < 3 → a ≠ b → (F_Places a).2.1 ≠ (F_Places b).2.1 := by decide +kernel
theorem t_Places_ok : ∀ k, k < 3 → parseFieldDescriptor (F_Places k).2.2.1 = some (t_Places k) := by decide +kernel
theorem i_Places : ∀ w ∈ u_ws "PlaceMoves$Places" F_Places 3, w ∈ WG := by
  intro w hw
  obtain ⟨k, hk, rfl⟩ := List.mem_map.mp hw
  have hk := List.mem_range.mp hk
  match k, hk with
  | 0, _ => exact w_35
  | 1, _ => exact w_37
  | 2, _ => exact w_39
  | k + 3, h => exact absurd h (by omega)
def F_Things : u_T := fun k => match k with
  | 0 => ("PlaceMoves$Things", "least", "[I", true)
  | 1 => ("PlaceMoves$Things", "middle", "[I", true)
  | 2 => ("PlaceMoves$Things", "greatest", "[I", true)
  | 3 => ("PlaceMoves$Things", "grams", "[I", true)
  | 4 => ("PlaceMoves$Things", "keysNeeded", "[I", true)
  | 5 => ("PlaceMoves$Things", "isBox", "[Z", true)
  | _ => ("PlaceMoves$Things", "size", "I", false)
def t_Things : Nat → FieldType := fun k => match k with
  | 0 => .array .int
  | 1 => .array .int
  | 2 => .array .int
  | 3 => .array .int
  | 4 => .array .int
  | 5 => .array .boolean
  | _ => .int
theorem n_Things : ∀ a, a < 7 → ∀ b, b < 7 → a ≠ b → (F_Things a).2.1 ≠ (F_Things b).2.1 := by decide +kernel
theorem t_Things_ok : ∀ k, k < 7 → parseFieldDescriptor (F_Things k).2.2.1 = some (t_Things k) := by decide +kernel
theorem i_Things : ∀ w ∈ u_ws "PlaceMoves$Things" F_Things 7, w ∈ WG := by
  intro w hw
  obtain ⟨k, hk, rfl⟩ := List.mem_map.mp hw
  have hk := List.mem_range.mp hk
  match k, hk with
  | 0, _ => exact w_63
  | 1, _ => exact w_65
  | 2, _ => exact w_67
  | 3, _ => exact w_69
  | 4, _ => exact w_71
  | 5, _ => exact w_73
  | 6, _ => exact w_75
  | k + 7, h => exact absurd h (by omega)
def F_Rows : u_T := fun k => match k with
  | 0 => ("PlaceMoves$Rows", "size", "[I", true)
  | 1 => ("PlaceMoves$Rows", "hour", "[I", true)
  | 2 => ("PlaceMoves$Rows", "kind", "[I", true)
  | 3 => ("PlaceMoves$Rows", "target", "[I", true)
  | _ => ("PlaceMoves$Rows", "total", "I", false)
def t_Rows : Nat → FieldType := fun k => match k with
  | 0 => .array .int
  | 1 => .array .int
  | 2 => .array .int
  | 3 => .array .int
  | _ => .int
theorem n_Rows : ∀ a, a < 5 → ∀ b, b < 5 → a ≠ b → (F_Rows a).2.1 ≠ (F_Rows b).2.1 := by decide +kernel
theorem t_Rows_ok : ∀ k, k < 5 → parseFieldDescriptor (F_Rows k).2.2.1 = some (t_Rows k) := by decide +kernel
theorem i_Rows : ∀ w ∈ u_ws "PlaceMoves$Rows" F_Rows 5, w ∈ WG := by
  intro w hw
  obtain ⟨k, hk, rfl⟩ := List.mem_map.mp hw
  have hk := List.mem_range.mp hk
  match k, hk with
  | 0, _ => exact w_95
  | 1, _ => exact w_97
  | 2, _ => exact w_99
  | 3, _ => exact w_101
  | 4, _ => exact w_103
  | k + 5, h => exact absurd h (by omega)
def F_Doors : u_T := fun k => match k with
  | 0 => ("PlaceMoves$Doors", "one", "[I", true)
  | 1 => ("PlaceMoves$Doors", "other", "[I", true)
  | 2 => ("PlaceMoves$Doors", "wide", "[I", true)
  | 3 => ("PlaceMoves$Doors", "narrow", "[I", true)
  | _ => ("PlaceMoves$Doors", "size", "I", false)
def t_Doors : Nat → FieldType := fun k => match k with
  | 0 => .array .int
  | 1 => .array .int
  | 2 => .array .int
  | 3 => .array .int
  | _ => .int
theorem n_Doors : ∀ a, a < 5 → ∀ b, b < 5 → a ≠ b → (F_Doors a).2.1 ≠ (F_Doors b).2.1 := by decide +kernel
theorem t_Doors_ok : ∀ k, k < 5 → parseFieldDescriptor (F_Doors k).2.2.1 = some (t_Doors k) := by decide +kernel
theorem i_Doors : ∀ w ∈ u_ws "PlaceMoves$Doors" F_Doors 5, w ∈ WG := by
  intro w hw
  obtain ⟨k, hk, rfl⟩ := List.mem_map.mp hw
  have hk := List.mem_range.mp hk
  match k, hk with
  | 0, _ => exact w_118
  | 1, _ => exact w_120
  | 2, _ => exact w_122
  | 3, _ => exact w_124
  | 4, _ => exact w_126
  | k + 5, h => exact absurd h (by omega)
def F_Plans : u_T := fun k => match k with
  | 0 => ("PlaceMoves$Plans", "object", "[I", true)
  | 1 => ("PlaceMoves$Plans", "place", "[I", true)
  | 2 => ("PlaceMoves$Plans", "from", "[I", true)
  | 3 => ("PlaceMoves$Plans", "to", "[I", true)
  | _ => ("PlaceMoves$Plans", "size", "I", false)
def t_Plans : Nat → FieldType := fun k => match k with
  | 0 => .array .int
  | 1 => .array .int
  | 2 => .array .int
  | 3 => .array .int
  | _ => .int
theorem n_Plans : ∀ a, a < 5 → ∀ b, b < 5 → a ≠ b → (F_Plans a).2.1 ≠ (F_Plans b).2.1 := by decide +kernel
theorem t_Plans_ok : ∀ k, k < 5 → parseFieldDescriptor (F_Plans k).2.2.1 = some (t_Plans k) := by decide +kernel
theorem i_Plans : ∀ w ∈ u_ws "PlaceMoves$Plans" F_Plans 5, w ∈ WG := by
  intro w hw
  obtain ⟨k, hk, rfl⟩ := List.mem_map.mp hw
  have hk := List.mem_range.mp hk
  match k, hk with
  | 0, _ => exact w_144
  | 1, _ => exact w_146
  | 2, _ => exact w_148
  | 3, _ => exact w_150
  | 4, _ => exact w_152
  | k + 5, h => exact absurd h (by omega)
def F_QuietTimes : u_T := fun k => match k with
  | 0 => ("PlaceMoves$QuietTimes", "place", "[I", true)
  | 1 => ("PlaceMoves$QuietTimes", "from", "[I", true)
  | 2 => ("PlaceMoves$QuietTimes", "to", "[I", true)
  | _ => ("PlaceMoves$QuietTimes", "size", "I", false)
def t_QuietTimes : Nat → FieldType := fun k => match k with
  | 0 => .array .int
  | 1 => .array .int
  | 2 => .array .int
  | _ => .int
theorem n_QuietTimes : ∀ a, a < 4 → ∀ b, b < 4 → a ≠ b → (F_QuietTimes a).2.1 ≠ (F_QuietTimes b).2.1 := by decide +kernel
theorem t_QuietTimes_ok : ∀ k, k < 4 → parseFieldDescriptor (F_QuietTimes k).2.2.1 = some (t_QuietTimes k) := by decide +kernel
theorem i_QuietTimes : ∀ w ∈ u_ws "PlaceMoves$QuietTimes" F_QuietTimes 4, w ∈ WG := by
  intro w hw
  obtain ⟨k, hk, rfl⟩ := List.mem_map.mp hw
  have hk := List.mem_range.mp hk
  match k, hk with
  | 0, _ => exact w_167
  | 1, _ => exact w_169
  | 2, _ => exact w_171
  | 3, _ => exact w_173
  | k + 4, h => exact absurd h (by omega)
def F_MD : u_T := fun k => match k with
  | 0 => ("PlaceMovesModel", "thrown", "I", false)
  | 1 => ("PlaceMovesModel", "present", "I", false)
  | 2 => ("PlaceMovesModel", "places", "I", false)
  | 3 => ("PlaceMovesModel", "insides", "[I", true)
  | 4 => ("PlaceMovesModel", "loads", "[I", true)
  | 5 => ("PlaceMovesModel", "objects", "I", false)
  | 6 => ("PlaceMovesModel", "sizes", "[I", true)
  | 7 => ("PlaceMovesModel", "grams", "[I", true)
  | 8 => ("PlaceMovesModel", "needed", "[I", true)
  | 9 => ("PlaceMovesModel", "boxes", "[Z", true)
  | 10 => ("PlaceMovesModel", "keys", "[Z", true)
  | 11 => ("PlaceMovesModel", "many", "[I", true)
  | 12 => ("PlaceMovesModel", "hours", "[I", true)
  | 13 => ("PlaceMovesModel", "kinds", "[I", true)
  | 14 => ("PlaceMovesModel", "whats", "[I", true)
  | 15 => ("PlaceMovesModel", "doors", "I", false)
  | 16 => ("PlaceMovesModel", "firsts", "[I", true)
  | 17 => ("PlaceMovesModel", "seconds", "[I", true)
  | 18 => ("PlaceMovesModel", "widths", "[I", true)
  | 19 => ("PlaceMovesModel", "heights", "[I", true)
  | 20 => ("PlaceMovesModel", "far", "[I", true)
  | 21 => ("PlaceMovesModel", "plans", "I", false)
  | 22 => ("PlaceMovesModel", "planObjects", "[I", true)
  | 23 => ("PlaceMovesModel", "planPlaces", "[I", true)
  | 24 => ("PlaceMovesModel", "planFroms", "[I", true)
  | 25 => ("PlaceMovesModel", "planTos", "[I", true)
  | 26 => ("PlaceMovesModel", "quiets", "I", false)
  | 27 => ("PlaceMovesModel", "quietPlaces", "[I", true)
  | 28 => ("PlaceMovesModel", "quietFroms", "[I", true)
  | 29 => ("PlaceMovesModel", "quietTos", "[I", true)
  | 30 => ("PlaceMovesModel", "thought", "I", false)
  | _ => ("PlaceMovesModel", "thoughtPlace", "I", false)
def t_MD : Nat → FieldType := fun k => match k with
  | 0 => .int
  | 1 => .int
  | 2 => .int
  | 3 => .array .int
  | 4 => .array .int
  | 5 => .int
  | 6 => .array .int
  | 7 => .array .int
  | 8 => .array .int
  | 9 => .array .boolean
  | 10 => .array .boolean
  | 11 => .array .int
  | 12 => .array .int
  | 13 => .array .int
  | 14 => .array .int
  | 15 => .int
  | 16 => .array .int
  | 17 => .array .int
  | 18 => .array .int
  | 19 => .array .int
  | 20 => .array .int
  | 21 => .int
  | 22 => .array .int
  | 23 => .array .int
  | 24 => .array .int
  | 25 => .array .int
  | 26 => .int
  | 27 => .array .int
  | 28 => .array .int
  | 29 => .array .int
  | 30 => .int
  | _ => .int
theorem n_MD : ∀ a, a < 32 → ∀ b, b < 32 → a ≠ b → (F_MD a).2.1 ≠ (F_MD b).2.1 := by decide +kernel
theorem t_MD_ok : ∀ k, k < 32 → parseFieldDescriptor (F_MD k).2.2.1 = some (t_MD k) := by decide +kernel
theorem i_MD : ∀ w ∈ u_ws "PlaceMovesModel" F_MD 32, w ∈ WG := by
  intro w hw
  obtain ⟨k, hk, rfl⟩ := List.mem_map.mp hw
  have hk := List.mem_range.mp hk
  match k, hk with
  | 0, _ => exact w_632
  | 1, _ => exact w_634
  | 2, _ => exact w_636
  | 3, _ => exact w_638
  | 4, _ => exact w_640
  | 5, _ => exact w_642
  | 6, _ => exact w_644
  | 7, _ => exact w_646
  | 8, _ => exact w_648
  | 9, _ => exact w_650
  | 10, _ => exact w_652
  | 11, _ => exact w_654
  | 12, _ => exact w_656
  | 13, _ => exact w_658
  | 14, _ => exact w_660
  | 15, _ => exact w_662
  | 16, _ => exact w_664
  | 17, _ => exact w_666
  | 18, _ => exact w_668
  | 19, _ => exact w_670
  | 20, _ => exact w_672
  | 21, _ => exact w_674
  | 22, _ => exact w_676
  | 23, _ => exact w_678
  | 24, _ => exact w_680
  | 25, _ => exact w_682
  | 26, _ => exact w_684
  | 27, _ => exact w_686
  | 28, _ => exact w_688
  | 29, _ => exact w_690
  | 30, _ => exact w_692
  | 31, _ => exact w_694
  | k + 32, h => exact absurd h (by omega)
abbrev clX : List vw_C := [("PlaceMoves", F_PM, 9), ("PlaceMoves$Places", F_Places, 3), ("PlaceMoves$Things", F_Things, 7), ("PlaceMoves$Rows", F_Rows, 5), ("PlaceMoves$Doors", F_Doors, 5), ("PlaceMoves$Plans", F_Plans, 5), ("PlaceMoves$QuietTimes", F_QuietTimes, 4), ("PlaceMovesModel", F_MD, 32)]
end
section
theorem d_PM_init_0 : decode prog_1_method_1_code 0 = .ok (.aload_n 0, 1) := by decide +kernel
theorem d_PM_init_1 : decode prog_1_method_1_code 1 = .ok (.invokespecial 1, 3) := by decide +kernel
theorem d_PM_init_4 : decode prog_1_method_1_code 4 = .ok (.aload_n 0, 1) := by decide +kernel
theorem d_PM_init_5 : decode prog_1_method_1_code 5 = .ok (.new 7, 3) := by decide +kernel
theorem d_PM_init_8 : decode prog_1_method_1_code 8 = .ok (.dup, 1) := by decide +kernel
theorem d_PM_init_9 : decode prog_1_method_1_code 9 = .ok (.invokespecial 9, 3) := by decide +kernel
theorem d_PM_init_12 : decode prog_1_method_1_code 12 = .ok (.putfield 10, 3) := by decide +kernel
theorem d_PM_init_15 : decode prog_1_method_1_code 15 = .ok (.aload_n 0, 1) := by decide +kernel
theorem d_PM_init_16 : decode prog_1_method_1_code 16 = .ok (.new 16, 3) := by decide +kernel
theorem d_PM_init_19 : decode prog_1_method_1_code 19 = .ok (.dup, 1) := by decide +kernel
theorem d_PM_init_20 : decode prog_1_method_1_code 20 = .ok (.invokespecial 18, 3) := by decide +kernel
theorem d_PM_init_23 : decode prog_1_method_1_code 23 = .ok (.putfield 19, 3) := by decide +kernel
theorem d_PM_init_26 : decode prog_1_method_1_code 26 = .ok (.aload_n 0, 1) := by decide +kernel
theorem d_PM_init_27 : decode prog_1_method_1_code 27 = .ok (.new 23, 3) := by decide +kernel
theorem d_PM_init_30 : decode prog_1_method_1_code 30 = .ok (.dup, 1) := by decide +kernel
theorem d_PM_init_31 : decode prog_1_method_1_code 31 = .ok (.invokespecial 25, 3) := by decide +kernel
theorem d_PM_init_34 : decode prog_1_method_1_code 34 = .ok (.putfield 26, 3) := by decide +kernel
theorem d_PM_init_37 : decode prog_1_method_1_code 37 = .ok (.aload_n 0, 1) := by decide +kernel
theorem d_PM_init_38 : decode prog_1_method_1_code 38 = .ok (.new 30, 3) := by decide +kernel
theorem d_PM_init_41 : decode prog_1_method_1_code 41 = .ok (.dup, 1) := by decide +kernel
theorem d_PM_init_42 : decode prog_1_method_1_code 42 = .ok (.invokespecial 32, 3) := by decide +kernel
theorem d_PM_init_45 : decode prog_1_method_1_code 45 = .ok (.putfield 33, 3) := by decide +kernel
theorem d_PM_init_48 : decode prog_1_method_1_code 48 = .ok (.aload_n 0, 1) := by decide +kernel
theorem d_PM_init_49 : decode prog_1_method_1_code 49 = .ok (.new 37, 3) := by decide +kernel
theorem d_PM_init_52 : decode prog_1_method_1_code 52 = .ok (.dup, 1) := by decide +kernel
theorem d_PM_init_53 : decode prog_1_method_1_code 53 = .ok (.invokespecial 39, 3) := by decide +kernel
theorem d_PM_init_56 : decode prog_1_method_1_code 56 = .ok (.putfield 40, 3) := by decide +kernel
theorem d_PM_init_59 : decode prog_1_method_1_code 59 = .ok (.aload_n 0, 1) := by decide +kernel
theorem d_PM_init_60 : decode prog_1_method_1_code 60 = .ok (.new 44, 3) := by decide +kernel
theorem d_PM_init_63 : decode prog_1_method_1_code 63 = .ok (.dup, 1) := by decide +kernel
theorem d_PM_init_64 : decode prog_1_method_1_code 64 = .ok (.invokespecial 46, 3) := by decide +kernel
theorem d_PM_init_67 : decode prog_1_method_1_code 67 = .ok (.putfield 47, 3) := by decide +kernel
theorem d_PM_init_70 : decode prog_1_method_1_code 70 = .ok (.aload_n 0, 1) := by decide +kernel
theorem d_PM_init_71 : decode prog_1_method_1_code 71 = .ok (.bipush 10, 2) := by decide +kernel
theorem d_PM_init_73 : decode prog_1_method_1_code 73 = .ok (.newarray .boolean, 2) := by decide +kernel
theorem d_PM_init_75 : decode prog_1_method_1_code 75 = .ok (.putfield 51, 3) := by decide +kernel
theorem d_PM_init_78 : decode prog_1_method_1_code 78 = .ok (.aload_n 0, 1) := by decide +kernel
theorem d_PM_init_79 : decode prog_1_method_1_code 79 = .ok (.bipush 20, 2) := by decide +kernel
theorem d_PM_init_81 : decode prog_1_method_1_code 81 = .ok (.newarray .int, 2) := by decide +kernel
theorem d_PM_init_83 : decode prog_1_method_1_code 83 = .ok (.putfield 55, 3) := by decide +kernel
theorem d_PM_init_86 : decode prog_1_method_1_code 86 = .ok (.aload_n 0, 1) := by decide +kernel
theorem d_PM_init_87 : decode prog_1_method_1_code 87 = .ok (.iconst 0, 1) := by decide +kernel
theorem d_PM_init_88 : decode prog_1_method_1_code 88 = .ok (.putfield 59, 3) := by decide +kernel
theorem d_PM_init_91 : decode prog_1_method_1_code 91 = .ok (.return_, 1) := by decide +kernel
theorem d_PM_place_0 : decode prog_1_method_2_code 0 = .ok (.iload_n 1, 1) := by decide +kernel
theorem d_PM_place_1 : decode prog_1_method_2_code 1 = .ok (.iconst (-1), 1) := by decide +kernel
theorem d_PM_place_2 : decode prog_1_method_2_code 2 = .ok (.if_icmp .eq 8, 3) := by decide +kernel
theorem d_PM_place_5 : decode prog_1_method_2_code 5 = .ok (.aload_n 0, 1) := by decide +kernel
theorem d_PM_place_6 : decode prog_1_method_2_code 6 = .ok (.iload_n 1, 1) := by decide +kernel
theorem d_PM_place_7 : decode prog_1_method_2_code 7 = .ok (.invokevirtual 63, 3) := by decide +kernel
theorem d_PM_place_10 : decode prog_1_method_2_code 10 = .ok (.iload_n 2, 1) := by decide +kernel
theorem d_PM_place_11 : decode prog_1_method_2_code 11 = .ok (.iconst 1, 1) := by decide +kernel
theorem d_PM_place_12 : decode prog_1_method_2_code 12 = .ok (.ldc 67, 2) := by decide +kernel
theorem d_PM_place_14 : decode prog_1_method_2_code 14 = .ok (.invokestatic 68, 3) := by decide +kernel
theorem d_PM_place_17 : decode prog_1_method_2_code 17 = .ok (.aload_n 0, 1) := by decide +kernel
theorem d_PM_place_18 : decode prog_1_method_2_code 18 = .ok (.getfield 10, 3) := by decide +kernel
theorem d_PM_place_21 : decode prog_1_method_2_code 21 = .ok (.getfield 72, 3) := by decide +kernel
theorem d_PM_place_24 : decode prog_1_method_2_code 24 = .ok (.bipush 24, 2) := by decide +kernel
theorem d_PM_place_26 : decode prog_1_method_2_code 26 = .ok (.invokestatic 75, 3) := by decide +kernel
theorem d_PM_place_29 : decode prog_1_method_2_code 29 = .ok (.aload_n 0, 1) := by decide +kernel
theorem d_PM_place_30 : decode prog_1_method_2_code 30 = .ok (.getfield 10, 3) := by decide +kernel
theorem d_PM_place_33 : decode prog_1_method_2_code 33 = .ok (.iload_n 1, 1) := by decide +kernel
theorem d_PM_place_34 : decode prog_1_method_2_code 34 = .ok (.iload_n 2, 1) := by decide +kernel
theorem d_PM_place_35 : decode prog_1_method_2_code 35 = .ok (.invokevirtual 79, 3) := by decide +kernel
theorem d_PM_place_38 : decode prog_1_method_2_code 38 = .ok (.ireturn, 1) := by decide +kernel
theorem d_PM_object_0 : decode prog_1_method_3_code 0 = .ok (.iload_n 1, 1) := by decide +kernel
theorem d_PM_object_1 : decode prog_1_method_3_code 1 = .ok (.iconst 1, 1) := by decide +kernel
theorem d_PM_object_2 : decode prog_1_method_3_code 2 = .ok (.sipush 10000, 3) := by decide +kernel
theorem d_PM_object_5 : decode prog_1_method_3_code 5 = .ok (.invokestatic 68, 3) := by decide +kernel
theorem d_PM_object_8 : decode prog_1_method_3_code 8 = .ok (.iload_n 2, 1) := by decide +kernel
theorem d_PM_object_9 : decode prog_1_method_3_code 9 = .ok (.iconst 1, 1) := by decide +kernel
theorem d_PM_object_10 : decode prog_1_method_3_code 10 = .ok (.sipush 10000, 3) := by decide +kernel
theorem d_PM_object_13 : decode prog_1_method_3_code 13 = .ok (.invokestatic 68, 3) := by decide +kernel
theorem d_PM_object_16 : decode prog_1_method_3_code 16 = .ok (.iload_n 3, 1) := by decide +kernel
theorem d_PM_object_17 : decode prog_1_method_3_code 17 = .ok (.iconst 1, 1) := by decide +kernel
theorem d_PM_object_18 : decode prog_1_method_3_code 18 = .ok (.sipush 10000, 3) := by decide +kernel
theorem d_PM_object_21 : decode prog_1_method_3_code 21 = .ok (.invokestatic 68, 3) := by decide +kernel
theorem d_PM_object_24 : decode prog_1_method_3_code 24 = .ok (.iload 4, 2) := by decide +kernel
theorem d_PM_object_26 : decode prog_1_method_3_code 26 = .ok (.iconst 1, 1) := by decide +kernel
theorem d_PM_object_27 : decode prog_1_method_3_code 27 = .ok (.ldc 83, 2) := by decide +kernel
theorem d_PM_object_29 : decode prog_1_method_3_code 29 = .ok (.invokestatic 68, 3) := by decide +kernel
theorem d_PM_object_32 : decode prog_1_method_3_code 32 = .ok (.aload_n 0, 1) := by decide +kernel
theorem d_PM_object_33 : decode prog_1_method_3_code 33 = .ok (.getfield 19, 3) := by decide +kernel
theorem d_PM_object_36 : decode prog_1_method_3_code 36 = .ok (.getfield 84, 3) := by decide +kernel
theorem d_PM_object_39 : decode prog_1_method_3_code 39 = .ok (.bipush 20, 2) := by decide +kernel
theorem d_PM_object_41 : decode prog_1_method_3_code 41 = .ok (.invokestatic 75, 3) := by decide +kernel
theorem d_PM_object_44 : decode prog_1_method_3_code 44 = .ok (.aload_n 0, 1) := by decide +kernel
theorem d_PM_object_45 : decode prog_1_method_3_code 45 = .ok (.getfield 19, 3) := by decide +kernel
theorem d_PM_object_48 : decode prog_1_method_3_code 48 = .ok (.iload_n 1, 1) := by decide +kernel
theorem d_PM_object_49 : decode prog_1_method_3_code 49 = .ok (.iload_n 2, 1) := by decide +kernel
theorem d_PM_object_50 : decode prog_1_method_3_code 50 = .ok (.iload_n 3, 1) := by decide +kernel
theorem d_PM_object_51 : decode prog_1_method_3_code 51 = .ok (.iload 4, 2) := by decide +kernel
theorem d_PM_object_53 : decode prog_1_method_3_code 53 = .ok (.invokevirtual 85, 3) := by decide +kernel
theorem d_PM_object_56 : decode prog_1_method_3_code 56 = .ok (.ireturn, 1) := by decide +kernel
theorem d_PM_keys_0 : decode prog_1_method_4_code 0 = .ok (.aload_n 0, 1) := by decide +kernel
theorem d_PM_keys_1 : decode prog_1_method_4_code 1 = .ok (.iload_n 1, 1) := by decide +kernel
theorem d_PM_keys_2 : decode prog_1_method_4_code 2 = .ok (.invokevirtual 88, 3) := by decide +kernel
theorem d_PM_keys_5 : decode prog_1_method_4_code 5 = .ok (.iload_n 2, 1) := by decide +kernel
theorem d_PM_keys_6 : decode prog_1_method_4_code 6 = .ok (.iconst 0, 1) := by decide +kernel
theorem d_PM_keys_7 : decode prog_1_method_4_code 7 = .ok (.iconst 2, 1) := by decide +kernel
theorem d_PM_keys_8 : decode prog_1_method_4_code 8 = .ok (.invokestatic 68, 3) := by decide +kernel
theorem d_PM_keys_11 : decode prog_1_method_4_code 11 = .ok (.aload_n 0, 1) := by decide +kernel
theorem d_PM_keys_12 : decode prog_1_method_4_code 12 = .ok (.getfield 19, 3) := by decide +kernel
theorem d_PM_keys_15 : decode prog_1_method_4_code 15 = .ok (.getfield 91, 3) := by decide +kernel
theorem d_PM_keys_18 : decode prog_1_method_4_code 18 = .ok (.iload_n 1, 1) := by decide +kernel
theorem d_PM_keys_19 : decode prog_1_method_4_code 19 = .ok (.iaload, 1) := by decide +kernel
theorem d_PM_keys_20 : decode prog_1_method_4_code 20 = .ok (.istore_n 3, 1) := by decide +kernel
theorem d_PM_keys_21 : decode prog_1_method_4_code 21 = .ok (.aload_n 0, 1) := by decide +kernel
theorem d_PM_keys_22 : decode prog_1_method_4_code 22 = .ok (.getfield 19, 3) := by decide +kernel
theorem d_PM_keys_25 : decode prog_1_method_4_code 25 = .ok (.getfield 91, 3) := by decide +kernel
theorem d_PM_keys_28 : decode prog_1_method_4_code 28 = .ok (.iload_n 1, 1) := by decide +kernel
theorem d_PM_keys_29 : decode prog_1_method_4_code 29 = .ok (.iload_n 2, 1) := by decide +kernel
theorem d_PM_keys_30 : decode prog_1_method_4_code 30 = .ok (.iastore, 1) := by decide +kernel
theorem d_PM_keys_31 : decode prog_1_method_4_code 31 = .ok (.iload_n 3, 1) := by decide +kernel
theorem d_PM_keys_32 : decode prog_1_method_4_code 32 = .ok (.ireturn, 1) := by decide +kernel
theorem d_PM_key_0 : decode prog_1_method_5_code 0 = .ok (.aload_n 0, 1) := by decide +kernel
theorem d_PM_key_1 : decode prog_1_method_5_code 1 = .ok (.iload_n 1, 1) := by decide +kernel
theorem d_PM_key_2 : decode prog_1_method_5_code 2 = .ok (.invokevirtual 94, 3) := by decide +kernel
theorem d_PM_key_5 : decode prog_1_method_5_code 5 = .ok (.aload_n 0, 1) := by decide +kernel
theorem d_PM_key_6 : decode prog_1_method_5_code 6 = .ok (.getfield 51, 3) := by decide +kernel
theorem d_PM_key_9 : decode prog_1_method_5_code 9 = .ok (.iload_n 1, 1) := by decide +kernel
theorem d_PM_key_10 : decode prog_1_method_5_code 10 = .ok (.baload, 1) := by decide +kernel
theorem d_PM_key_11 : decode prog_1_method_5_code 11 = .ok (.iload_n 2, 1) := by decide +kernel
theorem d_PM_key_12 : decode prog_1_method_5_code 12 = .ok (.if_icmp .eq 7, 3) := by decide +kernel
theorem d_PM_key_15 : decode prog_1_method_5_code 15 = .ok (.iconst 1, 1) := by decide +kernel
theorem d_PM_key_16 : decode prog_1_method_5_code 16 = .ok (.goto 4, 3) := by decide +kernel
theorem d_PM_key_19 : decode prog_1_method_5_code 19 = .ok (.iconst 0, 1) := by decide +kernel
theorem d_PM_key_20 : decode prog_1_method_5_code 20 = .ok (.istore_n 3, 1) := by decide +kernel
theorem d_PM_key_21 : decode prog_1_method_5_code 21 = .ok (.aload_n 0, 1) := by decide +kernel
theorem d_PM_key_22 : decode prog_1_method_5_code 22 = .ok (.getfield 51, 3) := by decide +kernel
theorem d_PM_key_25 : decode prog_1_method_5_code 25 = .ok (.iload_n 1, 1) := by decide +kernel
theorem d_PM_key_26 : decode prog_1_method_5_code 26 = .ok (.iload_n 2, 1) := by decide +kernel
theorem d_PM_key_27 : decode prog_1_method_5_code 27 = .ok (.bastore, 1) := by decide +kernel
theorem d_PM_key_28 : decode prog_1_method_5_code 28 = .ok (.iload_n 3, 1) := by decide +kernel
theorem d_PM_key_29 : decode prog_1_method_5_code 29 = .ok (.ireturn, 1) := by decide +kernel
theorem d_PM_box_0 : decode prog_1_method_6_code 0 = .ok (.aload_n 0, 1) := by decide +kernel
theorem d_PM_box_1 : decode prog_1_method_6_code 1 = .ok (.iload_n 1, 1) := by decide +kernel
theorem d_PM_box_2 : decode prog_1_method_6_code 2 = .ok (.invokevirtual 88, 3) := by decide +kernel
theorem d_PM_box_5 : decode prog_1_method_6_code 5 = .ok (.aload_n 0, 1) := by decide +kernel
theorem d_PM_box_6 : decode prog_1_method_6_code 6 = .ok (.getfield 19, 3) := by decide +kernel
theorem d_PM_box_9 : decode prog_1_method_6_code 9 = .ok (.getfield 97, 3) := by decide +kernel
theorem d_PM_box_12 : decode prog_1_method_6_code 12 = .ok (.iload_n 1, 1) := by decide +kernel
theorem d_PM_box_13 : decode prog_1_method_6_code 13 = .ok (.baload, 1) := by decide +kernel
theorem d_PM_box_14 : decode prog_1_method_6_code 14 = .ok (.ifCond .ne 7, 3) := by decide +kernel
theorem d_PM_box_17 : decode prog_1_method_6_code 17 = .ok (.iconst 1, 1) := by decide +kernel
theorem d_PM_box_18 : decode prog_1_method_6_code 18 = .ok (.goto 4, 3) := by decide +kernel
theorem d_PM_box_21 : decode prog_1_method_6_code 21 = .ok (.iconst 0, 1) := by decide +kernel
theorem d_PM_box_22 : decode prog_1_method_6_code 22 = .ok (.istore_n 2, 1) := by decide +kernel
theorem d_PM_box_23 : decode prog_1_method_6_code 23 = .ok (.aload_n 0, 1) := by decide +kernel
theorem d_PM_box_24 : decode prog_1_method_6_code 24 = .ok (.getfield 19, 3) := by decide +kernel
theorem d_PM_box_27 : decode prog_1_method_6_code 27 = .ok (.getfield 97, 3) := by decide +kernel
theorem d_PM_box_30 : decode prog_1_method_6_code 30 = .ok (.iload_n 1, 1) := by decide +kernel
theorem d_PM_box_31 : decode prog_1_method_6_code 31 = .ok (.iconst 1, 1) := by decide +kernel
theorem d_PM_box_32 : decode prog_1_method_6_code 32 = .ok (.bastore, 1) := by decide +kernel
theorem d_PM_box_33 : decode prog_1_method_6_code 33 = .ok (.iload_n 2, 1) := by decide +kernel
theorem d_PM_box_34 : decode prog_1_method_6_code 34 = .ok (.ireturn, 1) := by decide +kernel
theorem d_PM_move_0 : decode prog_1_method_7_code 0 = .ok (.aload_n 0, 1) := by decide +kernel
theorem d_PM_move_1 : decode prog_1_method_7_code 1 = .ok (.iload_n 1, 1) := by decide +kernel
theorem d_PM_move_2 : decode prog_1_method_7_code 2 = .ok (.invokevirtual 88, 3) := by decide +kernel
theorem d_PM_move_5 : decode prog_1_method_7_code 5 = .ok (.aload_n 0, 1) := by decide +kernel
theorem d_PM_move_6 : decode prog_1_method_7_code 6 = .ok (.iload_n 2, 1) := by decide +kernel
theorem d_PM_move_7 : decode prog_1_method_7_code 7 = .ok (.invokevirtual 63, 3) := by decide +kernel
theorem d_PM_move_10 : decode prog_1_method_7_code 10 = .ok (.aload_n 0, 1) := by decide +kernel
theorem d_PM_move_11 : decode prog_1_method_7_code 11 = .ok (.iload 4, 2) := by decide +kernel
theorem d_PM_move_13 : decode prog_1_method_7_code 13 = .ok (.invokevirtual 94, 3) := by decide +kernel
theorem d_PM_move_16 : decode prog_1_method_7_code 16 = .ok (.aload_n 0, 1) := by decide +kernel
theorem d_PM_move_17 : decode prog_1_method_7_code 17 = .ok (.iload 5, 2) := by decide +kernel
theorem d_PM_move_19 : decode prog_1_method_7_code 19 = .ok (.invokevirtual 94, 3) := by decide +kernel
theorem d_PM_move_22 : decode prog_1_method_7_code 22 = .ok (.iload_n 3, 1) := by decide +kernel
theorem d_PM_move_23 : decode prog_1_method_7_code 23 = .ok (.aload_n 0, 1) := by decide +kernel
theorem d_PM_move_24 : decode prog_1_method_7_code 24 = .ok (.getfield 59, 3) := by decide +kernel
theorem d_PM_move_27 : decode prog_1_method_7_code 27 = .ok (.ldc 83, 2) := by decide +kernel
theorem d_PM_move_29 : decode prog_1_method_7_code 29 = .ok (.invokestatic 68, 3) := by decide +kernel
theorem d_PM_move_32 : decode prog_1_method_7_code 32 = .ok (.aload_n 0, 1) := by decide +kernel
theorem d_PM_move_33 : decode prog_1_method_7_code 33 = .ok (.getfield 26, 3) := by decide +kernel
theorem d_PM_move_36 : decode prog_1_method_7_code 36 = .ok (.getfield 100, 3) := by decide +kernel
theorem d_PM_move_39 : decode prog_1_method_7_code 39 = .ok (.iload_n 1, 1) := by decide +kernel
theorem d_PM_move_40 : decode prog_1_method_7_code 40 = .ok (.iaload, 1) := by decide +kernel
theorem d_PM_move_41 : decode prog_1_method_7_code 41 = .ok (.bipush 40, 2) := by decide +kernel
theorem d_PM_move_43 : decode prog_1_method_7_code 43 = .ok (.invokestatic 75, 3) := by decide +kernel
theorem d_PM_move_46 : decode prog_1_method_7_code 46 = .ok (.aload_n 0, 1) := by decide +kernel
theorem d_PM_move_47 : decode prog_1_method_7_code 47 = .ok (.iload_n 1, 1) := by decide +kernel
theorem d_PM_move_48 : decode prog_1_method_7_code 48 = .ok (.iload 4, 2) := by decide +kernel
theorem d_PM_move_50 : decode prog_1_method_7_code 50 = .ok (.iload 5, 2) := by decide +kernel
theorem d_PM_move_52 : decode prog_1_method_7_code 52 = .ok (.invokevirtual 102, 3) := by decide +kernel
theorem d_PM_move_55 : decode prog_1_method_7_code 55 = .ok (.aload_n 0, 1) := by decide +kernel
theorem d_PM_move_56 : decode prog_1_method_7_code 56 = .ok (.aload_n 0, 1) := by decide +kernel
theorem d_PM_move_57 : decode prog_1_method_7_code 57 = .ok (.iload_n 1, 1) := by decide +kernel
theorem d_PM_move_58 : decode prog_1_method_7_code 58 = .ok (.iload_n 3, 1) := by decide +kernel
theorem d_PM_move_59 : decode prog_1_method_7_code 59 = .ok (.invokevirtual 105, 3) := by decide +kernel
theorem d_PM_move_62 : decode prog_1_method_7_code 62 = .ok (.iload_n 2, 1) := by decide +kernel
theorem d_PM_move_63 : decode prog_1_method_7_code 63 = .ok (.iload_n 3, 1) := by decide +kernel
theorem d_PM_move_64 : decode prog_1_method_7_code 64 = .ok (.invokevirtual 108, 3) := by decide +kernel
theorem d_PM_move_67 : decode prog_1_method_7_code 67 = .ok (.ifCond .eq 5, 3) := by decide +kernel
theorem d_PM_move_70 : decode prog_1_method_7_code 70 = .ok (.iconst 1, 1) := by decide +kernel
theorem d_PM_move_71 : decode prog_1_method_7_code 71 = .ok (.ireturn, 1) := by decide +kernel
theorem d_PM_move_72 : decode prog_1_method_7_code 72 = .ok (.aload_n 0, 1) := by decide +kernel
theorem d_PM_move_73 : decode prog_1_method_7_code 73 = .ok (.iload_n 1, 1) := by decide +kernel
theorem d_PM_move_74 : decode prog_1_method_7_code 74 = .ok (.iload_n 3, 1) := by decide +kernel
theorem d_PM_move_75 : decode prog_1_method_7_code 75 = .ok (.iconst 0, 1) := by decide +kernel
theorem d_PM_move_76 : decode prog_1_method_7_code 76 = .ok (.iload_n 2, 1) := by decide +kernel
theorem d_PM_move_77 : decode prog_1_method_7_code 77 = .ok (.invokevirtual 112, 3) := by decide +kernel
theorem d_PM_move_80 : decode prog_1_method_7_code 80 = .ok (.ifCond .eq 7, 3) := by decide +kernel
theorem d_PM_move_83 : decode prog_1_method_7_code 83 = .ok (.iconst 0, 1) := by decide +kernel
theorem d_PM_move_84 : decode prog_1_method_7_code 84 = .ok (.goto 4, 3) := by decide +kernel
theorem d_PM_move_87 : decode prog_1_method_7_code 87 = .ok (.iconst 2, 1) := by decide +kernel
theorem d_PM_move_88 : decode prog_1_method_7_code 88 = .ok (.ireturn, 1) := by decide +kernel
theorem d_PM_into_0 : decode prog_1_method_8_code 0 = .ok (.aload_n 0, 1) := by decide +kernel
theorem d_PM_into_1 : decode prog_1_method_8_code 1 = .ok (.iload_n 1, 1) := by decide +kernel
theorem d_PM_into_2 : decode prog_1_method_8_code 2 = .ok (.invokevirtual 88, 3) := by decide +kernel
theorem d_PM_into_5 : decode prog_1_method_8_code 5 = .ok (.aload_n 0, 1) := by decide +kernel
theorem d_PM_into_6 : decode prog_1_method_8_code 6 = .ok (.iload_n 2, 1) := by decide +kernel
theorem d_PM_into_7 : decode prog_1_method_8_code 7 = .ok (.invokevirtual 88, 3) := by decide +kernel
theorem d_PM_into_10 : decode prog_1_method_8_code 10 = .ok (.iload_n 3, 1) := by decide +kernel
theorem d_PM_into_11 : decode prog_1_method_8_code 11 = .ok (.aload_n 0, 1) := by decide +kernel
theorem d_PM_into_12 : decode prog_1_method_8_code 12 = .ok (.getfield 59, 3) := by decide +kernel
theorem d_PM_into_15 : decode prog_1_method_8_code 15 = .ok (.ldc 83, 2) := by decide +kernel
theorem d_PM_into_17 : decode prog_1_method_8_code 17 = .ok (.invokestatic 68, 3) := by decide +kernel
theorem d_PM_into_20 : decode prog_1_method_8_code 20 = .ok (.aload_n 0, 1) := by decide +kernel
theorem d_PM_into_21 : decode prog_1_method_8_code 21 = .ok (.getfield 26, 3) := by decide +kernel
theorem d_PM_into_24 : decode prog_1_method_8_code 24 = .ok (.getfield 100, 3) := by decide +kernel
theorem d_PM_into_27 : decode prog_1_method_8_code 27 = .ok (.iload_n 1, 1) := by decide +kernel
theorem d_PM_into_28 : decode prog_1_method_8_code 28 = .ok (.iaload, 1) := by decide +kernel
theorem d_PM_into_29 : decode prog_1_method_8_code 29 = .ok (.bipush 40, 2) := by decide +kernel
theorem d_PM_into_31 : decode prog_1_method_8_code 31 = .ok (.invokestatic 75, 3) := by decide +kernel
theorem d_PM_into_34 : decode prog_1_method_8_code 34 = .ok (.aload_n 0, 1) := by decide +kernel
theorem d_PM_into_35 : decode prog_1_method_8_code 35 = .ok (.getfield 19, 3) := by decide +kernel
theorem d_PM_into_38 : decode prog_1_method_8_code 38 = .ok (.getfield 97, 3) := by decide +kernel
theorem d_PM_into_41 : decode prog_1_method_8_code 41 = .ok (.iload_n 2, 1) := by decide +kernel
theorem d_PM_into_42 : decode prog_1_method_8_code 42 = .ok (.baload, 1) := by decide +kernel
theorem d_PM_into_43 : decode prog_1_method_8_code 43 = .ok (.ifCond .eq 18, 3) := by decide +kernel
theorem d_PM_into_46 : decode prog_1_method_8_code 46 = .ok (.iload_n 2, 1) := by decide +kernel
theorem d_PM_into_47 : decode prog_1_method_8_code 47 = .ok (.iload_n 1, 1) := by decide +kernel
theorem d_PM_into_48 : decode prog_1_method_8_code 48 = .ok (.if_icmp .eq 13, 3) := by decide +kernel
theorem d_PM_into_51 : decode prog_1_method_8_code 51 = .ok (.aload_n 0, 1) := by decide +kernel
theorem d_PM_into_52 : decode prog_1_method_8_code 52 = .ok (.iload_n 2, 1) := by decide +kernel
theorem d_PM_into_53 : decode prog_1_method_8_code 53 = .ok (.iload_n 1, 1) := by decide +kernel
theorem d_PM_into_54 : decode prog_1_method_8_code 54 = .ok (.iload_n 3, 1) := by decide +kernel
theorem d_PM_into_55 : decode prog_1_method_8_code 55 = .ok (.invokevirtual 116, 3) := by decide +kernel
theorem d_PM_into_58 : decode prog_1_method_8_code 58 = .ok (.ifCond .eq 5, 3) := by decide +kernel
theorem d_PM_into_61 : decode prog_1_method_8_code 61 = .ok (.iconst 1, 1) := by decide +kernel
theorem d_PM_into_62 : decode prog_1_method_8_code 62 = .ok (.ireturn, 1) := by decide +kernel
theorem d_PM_into_63 : decode prog_1_method_8_code 63 = .ok (.aload_n 0, 1) := by decide +kernel
theorem d_PM_into_64 : decode prog_1_method_8_code 64 = .ok (.getfield 19, 3) := by decide +kernel
theorem d_PM_into_67 : decode prog_1_method_8_code 67 = .ok (.iload_n 1, 1) := by decide +kernel
theorem d_PM_into_68 : decode prog_1_method_8_code 68 = .ok (.iload_n 2, 1) := by decide +kernel
theorem d_PM_into_69 : decode prog_1_method_8_code 69 = .ok (.invokevirtual 119, 3) := by decide +kernel
theorem d_PM_into_72 : decode prog_1_method_8_code 72 = .ok (.ifCond .ne 5, 3) := by decide +kernel
theorem d_PM_into_75 : decode prog_1_method_8_code 75 = .ok (.iconst 2, 1) := by decide +kernel
theorem d_PM_into_76 : decode prog_1_method_8_code 76 = .ok (.ireturn, 1) := by decide +kernel
theorem d_PM_into_77 : decode prog_1_method_8_code 77 = .ok (.aload_n 0, 1) := by decide +kernel
theorem d_PM_into_78 : decode prog_1_method_8_code 78 = .ok (.getfield 19, 3) := by decide +kernel
theorem d_PM_into_81 : decode prog_1_method_8_code 81 = .ok (.getfield 91, 3) := by decide +kernel
theorem d_PM_into_84 : decode prog_1_method_8_code 84 = .ok (.iload_n 1, 1) := by decide +kernel
theorem d_PM_into_85 : decode prog_1_method_8_code 85 = .ok (.iaload, 1) := by decide +kernel
theorem d_PM_into_86 : decode prog_1_method_8_code 86 = .ok (.ifCond .le 5, 3) := by decide +kernel
theorem d_PM_into_89 : decode prog_1_method_8_code 89 = .ok (.iconst 3, 1) := by decide +kernel
theorem d_PM_into_90 : decode prog_1_method_8_code 90 = .ok (.ireturn, 1) := by decide +kernel
theorem d_PM_into_91 : decode prog_1_method_8_code 91 = .ok (.aload_n 0, 1) := by decide +kernel
theorem d_PM_into_92 : decode prog_1_method_8_code 92 = .ok (.aload_n 0, 1) := by decide +kernel
theorem d_PM_into_93 : decode prog_1_method_8_code 93 = .ok (.iload_n 1, 1) := by decide +kernel
theorem d_PM_into_94 : decode prog_1_method_8_code 94 = .ok (.iload_n 3, 1) := by decide +kernel
theorem d_PM_into_95 : decode prog_1_method_8_code 95 = .ok (.invokevirtual 105, 3) := by decide +kernel
theorem d_PM_into_98 : decode prog_1_method_8_code 98 = .ok (.aload_n 0, 1) := by decide +kernel
theorem d_PM_into_99 : decode prog_1_method_8_code 99 = .ok (.iload_n 2, 1) := by decide +kernel
theorem d_PM_into_100 : decode prog_1_method_8_code 100 = .ok (.iload_n 3, 1) := by decide +kernel
theorem d_PM_into_101 : decode prog_1_method_8_code 101 = .ok (.invokevirtual 105, 3) := by decide +kernel
theorem d_PM_into_104 : decode prog_1_method_8_code 104 = .ok (.iload_n 3, 1) := by decide +kernel
theorem d_PM_into_105 : decode prog_1_method_8_code 105 = .ok (.invokevirtual 108, 3) := by decide +kernel
theorem d_PM_into_108 : decode prog_1_method_8_code 108 = .ok (.ifCond .eq 5, 3) := by decide +kernel
theorem d_PM_into_111 : decode prog_1_method_8_code 111 = .ok (.iconst 4, 1) := by decide +kernel
theorem d_PM_into_112 : decode prog_1_method_8_code 112 = .ok (.ireturn, 1) := by decide +kernel
theorem d_PM_into_113 : decode prog_1_method_8_code 113 = .ok (.aload_n 0, 1) := by decide +kernel
theorem d_PM_into_114 : decode prog_1_method_8_code 114 = .ok (.iload_n 1, 1) := by decide +kernel
theorem d_PM_into_115 : decode prog_1_method_8_code 115 = .ok (.iload_n 3, 1) := by decide +kernel
theorem d_PM_into_116 : decode prog_1_method_8_code 116 = .ok (.iconst 1, 1) := by decide +kernel
theorem d_PM_into_117 : decode prog_1_method_8_code 117 = .ok (.iload_n 2, 1) := by decide +kernel
theorem d_PM_into_118 : decode prog_1_method_8_code 118 = .ok (.invokevirtual 112, 3) := by decide +kernel
theorem d_PM_into_121 : decode prog_1_method_8_code 121 = .ok (.ifCond .eq 7, 3) := by decide +kernel
theorem d_PM_into_124 : decode prog_1_method_8_code 124 = .ok (.iconst 0, 1) := by decide +kernel
theorem d_PM_into_125 : decode prog_1_method_8_code 125 = .ok (.goto 4, 3) := by decide +kernel
theorem d_PM_into_128 : decode prog_1_method_8_code 128 = .ok (.iconst 5, 1) := by decide +kernel
theorem d_PM_into_129 : decode prog_1_method_8_code 129 = .ok (.ireturn, 1) := by decide +kernel
theorem d_PM_lost_0 : decode prog_1_method_9_code 0 = .ok (.aload_n 0, 1) := by decide +kernel
theorem d_PM_lost_1 : decode prog_1_method_9_code 1 = .ok (.iload_n 1, 1) := by decide +kernel
theorem d_PM_lost_2 : decode prog_1_method_9_code 2 = .ok (.invokevirtual 88, 3) := by decide +kernel
theorem d_PM_lost_5 : decode prog_1_method_9_code 5 = .ok (.iload_n 2, 1) := by decide +kernel
theorem d_PM_lost_6 : decode prog_1_method_9_code 6 = .ok (.aload_n 0, 1) := by decide +kernel
theorem d_PM_lost_7 : decode prog_1_method_9_code 7 = .ok (.getfield 59, 3) := by decide +kernel
theorem d_PM_lost_10 : decode prog_1_method_9_code 10 = .ok (.ldc 83, 2) := by decide +kernel
theorem d_PM_lost_12 : decode prog_1_method_9_code 12 = .ok (.invokestatic 68, 3) := by decide +kernel
theorem d_PM_lost_15 : decode prog_1_method_9_code 15 = .ok (.aload_n 0, 1) := by decide +kernel
theorem d_PM_lost_16 : decode prog_1_method_9_code 16 = .ok (.getfield 26, 3) := by decide +kernel
theorem d_PM_lost_19 : decode prog_1_method_9_code 19 = .ok (.getfield 100, 3) := by decide +kernel
theorem d_PM_lost_22 : decode prog_1_method_9_code 22 = .ok (.iload_n 1, 1) := by decide +kernel
theorem d_PM_lost_23 : decode prog_1_method_9_code 23 = .ok (.iaload, 1) := by decide +kernel
theorem d_PM_lost_24 : decode prog_1_method_9_code 24 = .ok (.bipush 40, 2) := by decide +kernel
theorem d_PM_lost_26 : decode prog_1_method_9_code 26 = .ok (.invokestatic 75, 3) := by decide +kernel
theorem d_PM_lost_29 : decode prog_1_method_9_code 29 = .ok (.aload_n 0, 1) := by decide +kernel
theorem d_PM_lost_30 : decode prog_1_method_9_code 30 = .ok (.getfield 26, 3) := by decide +kernel
theorem d_PM_lost_33 : decode prog_1_method_9_code 33 = .ok (.iload_n 1, 1) := by decide +kernel
theorem d_PM_lost_34 : decode prog_1_method_9_code 34 = .ok (.aload_n 0, 1) := by decide +kernel
theorem d_PM_lost_35 : decode prog_1_method_9_code 35 = .ok (.getfield 59, 3) := by decide +kernel
theorem d_PM_lost_38 : decode prog_1_method_9_code 38 = .ok (.invokevirtual 123, 3) := by decide +kernel
theorem d_PM_lost_41 : decode prog_1_method_9_code 41 = .ok (.istore_n 3, 1) := by decide +kernel
theorem d_PM_lost_42 : decode prog_1_method_9_code 42 = .ok (.iload_n 3, 1) := by decide +kernel
theorem d_PM_lost_43 : decode prog_1_method_9_code 43 = .ok (.iconst (-1), 1) := by decide +kernel
theorem d_PM_lost_44 : decode prog_1_method_9_code 44 = .ok (.if_icmp .eq 15, 3) := by decide +kernel
theorem d_PM_lost_47 : decode prog_1_method_9_code 47 = .ok (.aload_n 0, 1) := by decide +kernel
theorem d_PM_lost_48 : decode prog_1_method_9_code 48 = .ok (.getfield 26, 3) := by decide +kernel
theorem d_PM_lost_51 : decode prog_1_method_9_code 51 = .ok (.getfield 126, 3) := by decide +kernel
theorem d_PM_lost_54 : decode prog_1_method_9_code 54 = .ok (.iload_n 3, 1) := by decide +kernel
theorem d_PM_lost_55 : decode prog_1_method_9_code 55 = .ok (.iaload, 1) := by decide +kernel
theorem d_PM_lost_56 : decode prog_1_method_9_code 56 = .ok (.ifCond .eq 5, 3) := by decide +kernel
theorem d_PM_lost_59 : decode prog_1_method_9_code 59 = .ok (.iconst 0, 1) := by decide +kernel
theorem d_PM_lost_60 : decode prog_1_method_9_code 60 = .ok (.ireturn, 1) := by decide +kernel
theorem d_PM_lost_61 : decode prog_1_method_9_code 61 = .ok (.aload_n 0, 1) := by decide +kernel
theorem d_PM_lost_62 : decode prog_1_method_9_code 62 = .ok (.iload_n 1, 1) := by decide +kernel
theorem d_PM_lost_63 : decode prog_1_method_9_code 63 = .ok (.iload_n 2, 1) := by decide +kernel
theorem d_PM_lost_64 : decode prog_1_method_9_code 64 = .ok (.iconst 2, 1) := by decide +kernel
theorem d_PM_lost_65 : decode prog_1_method_9_code 65 = .ok (.iconst (-1), 1) := by decide +kernel
theorem d_PM_lost_66 : decode prog_1_method_9_code 66 = .ok (.invokevirtual 112, 3) := by decide +kernel
theorem d_PM_lost_69 : decode prog_1_method_9_code 69 = .ok (.ireturn, 1) := by decide +kernel
theorem d_PM_where_0 : decode prog_1_method_10_code 0 = .ok (.aload_n 0, 1) := by decide +kernel
theorem d_PM_where_1 : decode prog_1_method_10_code 1 = .ok (.iload_n 1, 1) := by decide +kernel
theorem d_PM_where_2 : decode prog_1_method_10_code 2 = .ok (.invokevirtual 88, 3) := by decide +kernel
theorem d_PM_where_5 : decode prog_1_method_10_code 5 = .ok (.aload_n 0, 1) := by decide +kernel
theorem d_PM_where_6 : decode prog_1_method_10_code 6 = .ok (.iload_n 1, 1) := by decide +kernel
theorem d_PM_where_7 : decode prog_1_method_10_code 7 = .ok (.iload_n 2, 1) := by decide +kernel
theorem d_PM_where_8 : decode prog_1_method_10_code 8 = .ok (.invokevirtual 105, 3) := by decide +kernel
theorem d_PM_where_11 : decode prog_1_method_10_code 11 = .ok (.ireturn, 1) := by decide +kernel
theorem d_PM_last_0 : decode prog_1_method_11_code 0 = .ok (.aload_n 0, 1) := by decide +kernel
theorem d_PM_last_1 : decode prog_1_method_11_code 1 = .ok (.iload_n 1, 1) := by decide +kernel
theorem d_PM_last_2 : decode prog_1_method_11_code 2 = .ok (.invokevirtual 88, 3) := by decide +kernel
theorem d_PM_last_5 : decode prog_1_method_11_code 5 = .ok (.aload_n 0, 1) := by decide +kernel
theorem d_PM_last_6 : decode prog_1_method_11_code 6 = .ok (.getfield 59, 3) := by decide +kernel
theorem d_PM_last_9 : decode prog_1_method_11_code 9 = .ok (.istore_n 2, 1) := by decide +kernel
theorem d_PM_last_10 : decode prog_1_method_11_code 10 = .ok (.iconst 0, 1) := by decide +kernel
theorem d_PM_last_11 : decode prog_1_method_11_code 11 = .ok (.istore_n 3, 1) := by decide +kernel
theorem d_PM_last_12 : decode prog_1_method_11_code 12 = .ok (.iload_n 3, 1) := by decide +kernel
theorem d_PM_last_13 : decode prog_1_method_11_code 13 = .ok (.sipush 800, 3) := by decide +kernel
theorem d_PM_last_16 : decode prog_1_method_11_code 16 = .ok (.if_icmp .gt 39, 3) := by decide +kernel
theorem d_PM_last_19 : decode prog_1_method_11_code 19 = .ok (.iload_n 2, 1) := by decide +kernel
theorem d_PM_last_20 : decode prog_1_method_11_code 20 = .ok (.ifCond .lt 35, 3) := by decide +kernel
theorem d_PM_last_23 : decode prog_1_method_11_code 23 = .ok (.aload_n 0, 1) := by decide +kernel
theorem d_PM_last_24 : decode prog_1_method_11_code 24 = .ok (.iload_n 1, 1) := by decide +kernel
theorem d_PM_last_25 : decode prog_1_method_11_code 25 = .ok (.iload_n 2, 1) := by decide +kernel
theorem d_PM_last_26 : decode prog_1_method_11_code 26 = .ok (.invokevirtual 105, 3) := by decide +kernel
theorem d_PM_last_29 : decode prog_1_method_11_code 29 = .ok (.istore 4, 2) := by decide +kernel
theorem d_PM_last_31 : decode prog_1_method_11_code 31 = .ok (.iload 4, 2) := by decide +kernel
theorem d_PM_last_33 : decode prog_1_method_11_code 33 = .ok (.iconst (-1), 1) := by decide +kernel
theorem d_PM_last_34 : decode prog_1_method_11_code 34 = .ok (.if_icmp .eq 6, 3) := by decide +kernel
theorem d_PM_last_37 : decode prog_1_method_11_code 37 = .ok (.iload 4, 2) := by decide +kernel
theorem d_PM_last_39 : decode prog_1_method_11_code 39 = .ok (.ireturn, 1) := by decide +kernel
theorem d_PM_last_40 : decode prog_1_method_11_code 40 = .ok (.aload_n 0, 1) := by decide +kernel
theorem d_PM_last_41 : decode prog_1_method_11_code 41 = .ok (.iload_n 1, 1) := by decide +kernel
theorem d_PM_last_42 : decode prog_1_method_11_code 42 = .ok (.iload_n 2, 1) := by decide +kernel
theorem d_PM_last_43 : decode prog_1_method_11_code 43 = .ok (.invokevirtual 129, 3) := by decide +kernel
theorem d_PM_last_46 : decode prog_1_method_11_code 46 = .ok (.iconst 1, 1) := by decide +kernel
theorem d_PM_last_47 : decode prog_1_method_11_code 47 = .ok (.isub, 1) := by decide +kernel
theorem d_PM_last_48 : decode prog_1_method_11_code 48 = .ok (.istore_n 2, 1) := by decide +kernel
theorem d_PM_last_49 : decode prog_1_method_11_code 49 = .ok (.iinc 3 1, 3) := by decide +kernel
theorem d_PM_last_52 : decode prog_1_method_11_code 52 = .ok (.goto (-40), 3) := by decide +kernel
theorem d_PM_last_55 : decode prog_1_method_11_code 55 = .ok (.iconst (-1), 1) := by decide +kernel
theorem d_PM_last_56 : decode prog_1_method_11_code 56 = .ok (.ireturn, 1) := by decide +kernel
theorem d_PM_history_0 : decode prog_1_method_12_code 0 = .ok (.aload_n 0, 1) := by decide +kernel
theorem d_PM_history_1 : decode prog_1_method_12_code 1 = .ok (.iload_n 1, 1) := by decide +kernel
theorem d_PM_history_2 : decode prog_1_method_12_code 2 = .ok (.invokevirtual 88, 3) := by decide +kernel
theorem d_PM_history_5 : decode prog_1_method_12_code 5 = .ok (.iload_n 2, 1) := by decide +kernel
theorem d_PM_history_6 : decode prog_1_method_12_code 6 = .ok (.aload_n 0, 1) := by decide +kernel
theorem d_PM_history_7 : decode prog_1_method_12_code 7 = .ok (.getfield 26, 3) := by decide +kernel
theorem d_PM_history_10 : decode prog_1_method_12_code 10 = .ok (.getfield 100, 3) := by decide +kernel
theorem d_PM_history_13 : decode prog_1_method_12_code 13 = .ok (.iload_n 1, 1) := by decide +kernel
theorem d_PM_history_14 : decode prog_1_method_12_code 14 = .ok (.iaload, 1) := by decide +kernel
theorem d_PM_history_15 : decode prog_1_method_12_code 15 = .ok (.invokestatic 132, 3) := by decide +kernel
theorem d_PM_history_18 : decode prog_1_method_12_code 18 = .ok (.iload_n 3, 1) := by decide +kernel
theorem d_PM_history_19 : decode prog_1_method_12_code 19 = .ok (.iconst 0, 1) := by decide +kernel
theorem d_PM_history_20 : decode prog_1_method_12_code 20 = .ok (.iconst 2, 1) := by decide +kernel
theorem d_PM_history_21 : decode prog_1_method_12_code 21 = .ok (.invokestatic 68, 3) := by decide +kernel
theorem d_PM_history_24 : decode prog_1_method_12_code 24 = .ok (.iload_n 1, 1) := by decide +kernel
theorem d_PM_history_25 : decode prog_1_method_12_code 25 = .ok (.iload_n 2, 1) := by decide +kernel
theorem d_PM_history_26 : decode prog_1_method_12_code 26 = .ok (.invokestatic 135, 3) := by decide +kernel
theorem d_PM_history_29 : decode prog_1_method_12_code 29 = .ok (.istore 4, 2) := by decide +kernel
theorem d_PM_history_31 : decode prog_1_method_12_code 31 = .ok (.iload_n 3, 1) := by decide +kernel
theorem d_PM_history_32 : decode prog_1_method_12_code 32 = .ok (.ifCond .ne 14, 3) := by decide +kernel
theorem d_PM_history_35 : decode prog_1_method_12_code 35 = .ok (.aload_n 0, 1) := by decide +kernel
theorem d_PM_history_36 : decode prog_1_method_12_code 36 = .ok (.getfield 26, 3) := by decide +kernel
theorem d_PM_history_39 : decode prog_1_method_12_code 39 = .ok (.getfield 138, 3) := by decide +kernel
theorem d_PM_history_42 : decode prog_1_method_12_code 42 = .ok (.iload 4, 2) := by decide +kernel
theorem d_PM_history_44 : decode prog_1_method_12_code 44 = .ok (.iaload, 1) := by decide +kernel
theorem d_PM_history_45 : decode prog_1_method_12_code 45 = .ok (.ireturn, 1) := by decide +kernel
theorem d_PM_history_46 : decode prog_1_method_12_code 46 = .ok (.iload_n 3, 1) := by decide +kernel
theorem d_PM_history_47 : decode prog_1_method_12_code 47 = .ok (.iconst 1, 1) := by decide +kernel
theorem d_PM_history_48 : decode prog_1_method_12_code 48 = .ok (.if_icmp .ne 16, 3) := by decide +kernel
theorem d_PM_history_51 : decode prog_1_method_12_code 51 = .ok (.aload_n 0, 1) := by decide +kernel
theorem d_PM_history_52 : decode prog_1_method_12_code 52 = .ok (.getfield 26, 3) := by decide +kernel
theorem d_PM_history_55 : decode prog_1_method_12_code 55 = .ok (.getfield 126, 3) := by decide +kernel
theorem d_PM_history_58 : decode prog_1_method_12_code 58 = .ok (.iload 4, 2) := by decide +kernel
theorem d_PM_history_60 : decode prog_1_method_12_code 60 = .ok (.iaload, 1) := by decide +kernel
theorem d_PM_history_61 : decode prog_1_method_12_code 61 = .ok (.goto 13, 3) := by decide +kernel
theorem d_PM_history_64 : decode prog_1_method_12_code 64 = .ok (.aload_n 0, 1) := by decide +kernel
theorem d_PM_history_65 : decode prog_1_method_12_code 65 = .ok (.getfield 26, 3) := by decide +kernel
theorem d_PM_history_68 : decode prog_1_method_12_code 68 = .ok (.getfield 141, 3) := by decide +kernel
theorem d_PM_history_71 : decode prog_1_method_12_code 71 = .ok (.iload 4, 2) := by decide +kernel
theorem d_PM_history_73 : decode prog_1_method_12_code 73 = .ok (.iaload, 1) := by decide +kernel
theorem d_PM_history_74 : decode prog_1_method_12_code 74 = .ok (.ireturn, 1) := by decide +kernel
theorem d_PM_door_0 : decode prog_1_method_13_code 0 = .ok (.aload_n 0, 1) := by decide +kernel
theorem d_PM_door_1 : decode prog_1_method_13_code 1 = .ok (.iload_n 1, 1) := by decide +kernel
theorem d_PM_door_2 : decode prog_1_method_13_code 2 = .ok (.invokevirtual 63, 3) := by decide +kernel
theorem d_PM_door_5 : decode prog_1_method_13_code 5 = .ok (.aload_n 0, 1) := by decide +kernel
theorem d_PM_door_6 : decode prog_1_method_13_code 6 = .ok (.iload_n 2, 1) := by decide +kernel
theorem d_PM_door_7 : decode prog_1_method_13_code 7 = .ok (.invokevirtual 63, 3) := by decide +kernel
theorem d_PM_door_10 : decode prog_1_method_13_code 10 = .ok (.iload_n 1, 1) := by decide +kernel
theorem d_PM_door_11 : decode prog_1_method_13_code 11 = .ok (.iload_n 2, 1) := by decide +kernel
theorem d_PM_door_12 : decode prog_1_method_13_code 12 = .ok (.if_icmp .ne 13, 3) := by decide +kernel
theorem d_PM_door_15 : decode prog_1_method_13_code 15 = .ok (.new 144, 3) := by decide +kernel
theorem d_PM_door_18 : decode prog_1_method_13_code 18 = .ok (.dup, 1) := by decide +kernel
theorem d_PM_door_19 : decode prog_1_method_13_code 19 = .ok (.ldc 146, 2) := by decide +kernel
theorem d_PM_door_21 : decode prog_1_method_13_code 21 = .ok (.invokespecial 148, 3) := by decide +kernel
theorem d_PM_door_24 : decode prog_1_method_13_code 24 = .ok (.athrow, 1) := by decide +kernel
theorem d_PM_door_25 : decode prog_1_method_13_code 25 = .ok (.iload_n 3, 1) := by decide +kernel
theorem d_PM_door_26 : decode prog_1_method_13_code 26 = .ok (.iconst 1, 1) := by decide +kernel
theorem d_PM_door_27 : decode prog_1_method_13_code 27 = .ok (.sipush 10000, 3) := by decide +kernel
theorem d_PM_door_30 : decode prog_1_method_13_code 30 = .ok (.invokestatic 68, 3) := by decide +kernel
theorem d_PM_door_33 : decode prog_1_method_13_code 33 = .ok (.iload 4, 2) := by decide +kernel
theorem d_PM_door_35 : decode prog_1_method_13_code 35 = .ok (.iconst 1, 1) := by decide +kernel
theorem d_PM_door_36 : decode prog_1_method_13_code 36 = .ok (.sipush 10000, 3) := by decide +kernel
theorem d_PM_door_39 : decode prog_1_method_13_code 39 = .ok (.invokestatic 68, 3) := by decide +kernel
theorem d_PM_door_42 : decode prog_1_method_13_code 42 = .ok (.aload_n 0, 1) := by decide +kernel
theorem d_PM_door_43 : decode prog_1_method_13_code 43 = .ok (.getfield 33, 3) := by decide +kernel
theorem d_PM_door_46 : decode prog_1_method_13_code 46 = .ok (.getfield 151, 3) := by decide +kernel
theorem d_PM_door_49 : decode prog_1_method_13_code 49 = .ok (.bipush 40, 2) := by decide +kernel
theorem d_PM_door_51 : decode prog_1_method_13_code 51 = .ok (.invokestatic 75, 3) := by decide +kernel
theorem d_PM_door_54 : decode prog_1_method_13_code 54 = .ok (.aload_n 0, 1) := by decide +kernel
theorem d_PM_door_55 : decode prog_1_method_13_code 55 = .ok (.getfield 33, 3) := by decide +kernel
theorem d_PM_door_58 : decode prog_1_method_13_code 58 = .ok (.iload_n 1, 1) := by decide +kernel
theorem d_PM_door_59 : decode prog_1_method_13_code 59 = .ok (.iload_n 2, 1) := by decide +kernel
theorem d_PM_door_60 : decode prog_1_method_13_code 60 = .ok (.iload_n 3, 1) := by decide +kernel
theorem d_PM_door_61 : decode prog_1_method_13_code 61 = .ok (.iload 4, 2) := by decide +kernel
theorem d_PM_door_63 : decode prog_1_method_13_code 63 = .ok (.invokevirtual 152, 3) := by decide +kernel
theorem d_PM_door_66 : decode prog_1_method_13_code 66 = .ok (.ireturn, 1) := by decide +kernel
theorem d_PM_passes_0 : decode prog_1_method_14_code 0 = .ok (.aload_n 0, 1) := by decide +kernel
theorem d_PM_passes_1 : decode prog_1_method_14_code 1 = .ok (.iload_n 1, 1) := by decide +kernel
theorem d_PM_passes_2 : decode prog_1_method_14_code 2 = .ok (.invokevirtual 88, 3) := by decide +kernel
theorem d_PM_passes_5 : decode prog_1_method_14_code 5 = .ok (.iload_n 2, 1) := by decide +kernel
theorem d_PM_passes_6 : decode prog_1_method_14_code 6 = .ok (.aload_n 0, 1) := by decide +kernel
theorem d_PM_passes_7 : decode prog_1_method_14_code 7 = .ok (.getfield 33, 3) := by decide +kernel
theorem d_PM_passes_10 : decode prog_1_method_14_code 10 = .ok (.getfield 151, 3) := by decide +kernel
theorem d_PM_passes_13 : decode prog_1_method_14_code 13 = .ok (.invokestatic 132, 3) := by decide +kernel
theorem d_PM_passes_16 : decode prog_1_method_14_code 16 = .ok (.aload_n 0, 1) := by decide +kernel
theorem d_PM_passes_17 : decode prog_1_method_14_code 17 = .ok (.iload_n 1, 1) := by decide +kernel
theorem d_PM_passes_18 : decode prog_1_method_14_code 18 = .ok (.iload_n 2, 1) := by decide +kernel
theorem d_PM_passes_19 : decode prog_1_method_14_code 19 = .ok (.invokevirtual 153, 3) := by decide +kernel
theorem d_PM_passes_22 : decode prog_1_method_14_code 22 = .ok (.ireturn, 1) := by decide +kernel
theorem d_PM_way_0 : decode prog_1_method_15_code 0 = .ok (.aload_n 0, 1) := by decide +kernel
theorem d_PM_way_1 : decode prog_1_method_15_code 1 = .ok (.iload_n 1, 1) := by decide +kernel
theorem d_PM_way_2 : decode prog_1_method_15_code 2 = .ok (.invokevirtual 88, 3) := by decide +kernel
theorem d_PM_way_5 : decode prog_1_method_15_code 5 = .ok (.aload_n 0, 1) := by decide +kernel
theorem d_PM_way_6 : decode prog_1_method_15_code 6 = .ok (.iload_n 2, 1) := by decide +kernel
theorem d_PM_way_7 : decode prog_1_method_15_code 7 = .ok (.invokevirtual 63, 3) := by decide +kernel
theorem d_PM_way_10 : decode prog_1_method_15_code 10 = .ok (.aload_n 0, 1) := by decide +kernel
theorem d_PM_way_11 : decode prog_1_method_15_code 11 = .ok (.iload_n 1, 1) := by decide +kernel
theorem d_PM_way_12 : decode prog_1_method_15_code 12 = .ok (.aload_n 0, 1) := by decide +kernel
theorem d_PM_way_13 : decode prog_1_method_15_code 13 = .ok (.getfield 59, 3) := by decide +kernel
theorem d_PM_way_16 : decode prog_1_method_15_code 16 = .ok (.invokevirtual 105, 3) := by decide +kernel
theorem d_PM_way_19 : decode prog_1_method_15_code 19 = .ok (.istore_n 3, 1) := by decide +kernel
theorem d_PM_way_20 : decode prog_1_method_15_code 20 = .ok (.iload_n 3, 1) := by decide +kernel
theorem d_PM_way_21 : decode prog_1_method_15_code 21 = .ok (.iconst (-1), 1) := by decide +kernel
theorem d_PM_way_22 : decode prog_1_method_15_code 22 = .ok (.if_icmp .ne 7, 3) := by decide +kernel
theorem d_PM_way_25 : decode prog_1_method_15_code 25 = .ok (.iconst (-1), 1) := by decide +kernel
theorem d_PM_way_26 : decode prog_1_method_15_code 26 = .ok (.goto 14, 3) := by decide +kernel
theorem d_PM_way_29 : decode prog_1_method_15_code 29 = .ok (.aload_n 0, 1) := by decide +kernel
theorem d_PM_way_30 : decode prog_1_method_15_code 30 = .ok (.iload_n 3, 1) := by decide +kernel
theorem d_PM_way_31 : decode prog_1_method_15_code 31 = .ok (.iload_n 2, 1) := by decide +kernel
theorem d_PM_way_32 : decode prog_1_method_15_code 32 = .ok (.aload_n 0, 1) := by decide +kernel
theorem d_PM_way_33 : decode prog_1_method_15_code 33 = .ok (.iload_n 1, 1) := by decide +kernel
theorem d_PM_way_34 : decode prog_1_method_15_code 34 = .ok (.invokevirtual 156, 3) := by decide +kernel
theorem d_PM_way_37 : decode prog_1_method_15_code 37 = .ok (.invokevirtual 160, 3) := by decide +kernel
theorem d_PM_way_40 : decode prog_1_method_15_code 40 = .ok (.ireturn, 1) := by decide +kernel
theorem d_PM_planned_0 : decode prog_1_method_16_code 0 = .ok (.aload_n 0, 1) := by decide +kernel
theorem d_PM_planned_1 : decode prog_1_method_16_code 1 = .ok (.iload_n 1, 1) := by decide +kernel
theorem d_PM_planned_2 : decode prog_1_method_16_code 2 = .ok (.invokevirtual 88, 3) := by decide +kernel
theorem d_PM_planned_5 : decode prog_1_method_16_code 5 = .ok (.aload_n 0, 1) := by decide +kernel
theorem d_PM_planned_6 : decode prog_1_method_16_code 6 = .ok (.iload_n 2, 1) := by decide +kernel
theorem d_PM_planned_7 : decode prog_1_method_16_code 7 = .ok (.invokevirtual 63, 3) := by decide +kernel
theorem d_PM_planned_10 : decode prog_1_method_16_code 10 = .ok (.iload_n 3, 1) := by decide +kernel
theorem d_PM_planned_11 : decode prog_1_method_16_code 11 = .ok (.aload_n 0, 1) := by decide +kernel
theorem d_PM_planned_12 : decode prog_1_method_16_code 12 = .ok (.getfield 59, 3) := by decide +kernel
theorem d_PM_planned_15 : decode prog_1_method_16_code 15 = .ok (.ldc 83, 2) := by decide +kernel
theorem d_PM_planned_17 : decode prog_1_method_16_code 17 = .ok (.invokestatic 68, 3) := by decide +kernel
theorem d_PM_planned_20 : decode prog_1_method_16_code 20 = .ok (.iload 4, 2) := by decide +kernel
theorem d_PM_planned_22 : decode prog_1_method_16_code 22 = .ok (.iload_n 3, 1) := by decide +kernel
theorem d_PM_planned_23 : decode prog_1_method_16_code 23 = .ok (.ldc 83, 2) := by decide +kernel
theorem d_PM_planned_25 : decode prog_1_method_16_code 25 = .ok (.invokestatic 68, 3) := by decide +kernel
theorem d_PM_planned_28 : decode prog_1_method_16_code 28 = .ok (.aload_n 0, 1) := by decide +kernel
theorem d_PM_planned_29 : decode prog_1_method_16_code 29 = .ok (.getfield 40, 3) := by decide +kernel
theorem d_PM_planned_32 : decode prog_1_method_16_code 32 = .ok (.getfield 164, 3) := by decide +kernel
theorem d_PM_planned_35 : decode prog_1_method_16_code 35 = .ok (.bipush 30, 2) := by decide +kernel
theorem d_PM_planned_37 : decode prog_1_method_16_code 37 = .ok (.invokestatic 75, 3) := by decide +kernel
theorem d_PM_planned_40 : decode prog_1_method_16_code 40 = .ok (.aload_n 0, 1) := by decide +kernel
theorem d_PM_planned_41 : decode prog_1_method_16_code 41 = .ok (.getfield 40, 3) := by decide +kernel
theorem d_PM_planned_44 : decode prog_1_method_16_code 44 = .ok (.iload_n 1, 1) := by decide +kernel
theorem d_PM_planned_45 : decode prog_1_method_16_code 45 = .ok (.iload_n 2, 1) := by decide +kernel
theorem d_PM_planned_46 : decode prog_1_method_16_code 46 = .ok (.iload_n 3, 1) := by decide +kernel
theorem d_PM_planned_47 : decode prog_1_method_16_code 47 = .ok (.iload 4, 2) := by decide +kernel
theorem d_PM_planned_49 : decode prog_1_method_16_code 49 = .ok (.invokevirtual 165, 3) := by decide +kernel
theorem d_PM_planned_52 : decode prog_1_method_16_code 52 = .ok (.aload_n 0, 1) := by decide +kernel
theorem d_PM_planned_53 : decode prog_1_method_16_code 53 = .ok (.iload_n 2, 1) := by decide +kernel
theorem d_PM_planned_54 : decode prog_1_method_16_code 54 = .ok (.iload_n 3, 1) := by decide +kernel
theorem d_PM_planned_55 : decode prog_1_method_16_code 55 = .ok (.iload 4, 2) := by decide +kernel
theorem d_PM_planned_57 : decode prog_1_method_16_code 57 = .ok (.invokevirtual 168, 3) := by decide +kernel
theorem d_PM_planned_60 : decode prog_1_method_16_code 60 = .ok (.ifCond .eq 5, 3) := by decide +kernel
theorem d_PM_planned_63 : decode prog_1_method_16_code 63 = .ok (.iconst 0, 1) := by decide +kernel
theorem d_PM_planned_64 : decode prog_1_method_16_code 64 = .ok (.ireturn, 1) := by decide +kernel
theorem d_PM_planned_65 : decode prog_1_method_16_code 65 = .ok (.aload_n 0, 1) := by decide +kernel
theorem d_PM_planned_66 : decode prog_1_method_16_code 66 = .ok (.getfield 40, 3) := by decide +kernel
theorem d_PM_planned_69 : decode prog_1_method_16_code 69 = .ok (.invokevirtual 171, 3) := by decide +kernel
theorem d_PM_planned_72 : decode prog_1_method_16_code 72 = .ok (.iconst 1, 1) := by decide +kernel
theorem d_PM_planned_73 : decode prog_1_method_16_code 73 = .ok (.ireturn, 1) := by decide +kernel
theorem d_PM_used_0 : decode prog_1_method_17_code 0 = .ok (.aload_n 0, 1) := by decide +kernel
theorem d_PM_used_1 : decode prog_1_method_17_code 1 = .ok (.iload_n 1, 1) := by decide +kernel
theorem d_PM_used_2 : decode prog_1_method_17_code 2 = .ok (.invokevirtual 63, 3) := by decide +kernel
theorem d_PM_used_5 : decode prog_1_method_17_code 5 = .ok (.aload_n 0, 1) := by decide +kernel
theorem d_PM_used_6 : decode prog_1_method_17_code 6 = .ok (.iload_n 2, 1) := by decide +kernel
theorem d_PM_used_7 : decode prog_1_method_17_code 7 = .ok (.invokevirtual 174, 3) := by decide +kernel
theorem d_PM_used_10 : decode prog_1_method_17_code 10 = .ok (.aload_n 0, 1) := by decide +kernel
theorem d_PM_used_11 : decode prog_1_method_17_code 11 = .ok (.iload_n 1, 1) := by decide +kernel
theorem d_PM_used_12 : decode prog_1_method_17_code 12 = .ok (.invokevirtual 177, 3) := by decide +kernel
theorem d_PM_used_15 : decode prog_1_method_17_code 15 = .ok (.ireturn, 1) := by decide +kernel
theorem d_PM_quiet_0 : decode prog_1_method_18_code 0 = .ok (.aload_n 0, 1) := by decide +kernel
theorem d_PM_quiet_1 : decode prog_1_method_18_code 1 = .ok (.iload_n 1, 1) := by decide +kernel
theorem d_PM_quiet_2 : decode prog_1_method_18_code 2 = .ok (.invokevirtual 63, 3) := by decide +kernel
theorem d_PM_quiet_5 : decode prog_1_method_18_code 5 = .ok (.iload_n 2, 1) := by decide +kernel
theorem d_PM_quiet_6 : decode prog_1_method_18_code 6 = .ok (.ifCond .lt 8, 3) := by decide +kernel
theorem d_PM_quiet_9 : decode prog_1_method_18_code 9 = .ok (.iload_n 3, 1) := by decide +kernel
theorem d_PM_quiet_10 : decode prog_1_method_18_code 10 = .ok (.iload_n 2, 1) := by decide +kernel
theorem d_PM_quiet_11 : decode prog_1_method_18_code 11 = .ok (.if_icmp .ge 13, 3) := by decide +kernel
theorem d_PM_quiet_14 : decode prog_1_method_18_code 14 = .ok (.new 144, 3) := by decide +kernel
theorem d_PM_quiet_17 : decode prog_1_method_18_code 17 = .ok (.dup, 1) := by decide +kernel
theorem d_PM_quiet_18 : decode prog_1_method_18_code 18 = .ok (.ldc 181, 2) := by decide +kernel
theorem d_PM_quiet_20 : decode prog_1_method_18_code 20 = .ok (.invokespecial 148, 3) := by decide +kernel
theorem d_PM_quiet_23 : decode prog_1_method_18_code 23 = .ok (.athrow, 1) := by decide +kernel
theorem d_PM_quiet_24 : decode prog_1_method_18_code 24 = .ok (.aload_n 0, 1) := by decide +kernel
theorem d_PM_quiet_25 : decode prog_1_method_18_code 25 = .ok (.getfield 47, 3) := by decide +kernel
theorem d_PM_quiet_28 : decode prog_1_method_18_code 28 = .ok (.getfield 183, 3) := by decide +kernel
theorem d_PM_quiet_31 : decode prog_1_method_18_code 31 = .ok (.bipush 20, 2) := by decide +kernel
theorem d_PM_quiet_33 : decode prog_1_method_18_code 33 = .ok (.invokestatic 75, 3) := by decide +kernel
theorem d_PM_quiet_36 : decode prog_1_method_18_code 36 = .ok (.aload_n 0, 1) := by decide +kernel
theorem d_PM_quiet_37 : decode prog_1_method_18_code 37 = .ok (.getfield 47, 3) := by decide +kernel
theorem d_PM_quiet_40 : decode prog_1_method_18_code 40 = .ok (.iload_n 1, 1) := by decide +kernel
theorem d_PM_quiet_41 : decode prog_1_method_18_code 41 = .ok (.iload_n 2, 1) := by decide +kernel
theorem d_PM_quiet_42 : decode prog_1_method_18_code 42 = .ok (.iload_n 3, 1) := by decide +kernel
theorem d_PM_quiet_43 : decode prog_1_method_18_code 43 = .ok (.invokevirtual 184, 3) := by decide +kernel
theorem d_PM_quiet_46 : decode prog_1_method_18_code 46 = .ok (.return_, 1) := by decide +kernel
theorem d_PM_count_0 : decode prog_1_method_19_code 0 = .ok (.iload_n 1, 1) := by decide +kernel
theorem d_PM_count_1 : decode prog_1_method_19_code 1 = .ok (.tableswitch 84 0 5 #[39, 47, 55, 63, 71, 76], 39) := by decide +kernel
theorem d_PM_count_40 : decode prog_1_method_19_code 40 = .ok (.aload_n 0, 1) := by decide +kernel
theorem d_PM_count_41 : decode prog_1_method_19_code 41 = .ok (.getfield 10, 3) := by decide +kernel
theorem d_PM_count_44 : decode prog_1_method_19_code 44 = .ok (.getfield 72, 3) := by decide +kernel
theorem d_PM_count_47 : decode prog_1_method_19_code 47 = .ok (.ireturn, 1) := by decide +kernel
theorem d_PM_count_48 : decode prog_1_method_19_code 48 = .ok (.aload_n 0, 1) := by decide +kernel
theorem d_PM_count_49 : decode prog_1_method_19_code 49 = .ok (.getfield 19, 3) := by decide +kernel
theorem d_PM_count_52 : decode prog_1_method_19_code 52 = .ok (.getfield 84, 3) := by decide +kernel
theorem d_PM_count_55 : decode prog_1_method_19_code 55 = .ok (.ireturn, 1) := by decide +kernel
theorem d_PM_count_56 : decode prog_1_method_19_code 56 = .ok (.aload_n 0, 1) := by decide +kernel
theorem d_PM_count_57 : decode prog_1_method_19_code 57 = .ok (.getfield 33, 3) := by decide +kernel
theorem d_PM_count_60 : decode prog_1_method_19_code 60 = .ok (.getfield 151, 3) := by decide +kernel
theorem d_PM_count_63 : decode prog_1_method_19_code 63 = .ok (.ireturn, 1) := by decide +kernel
theorem d_PM_count_64 : decode prog_1_method_19_code 64 = .ok (.aload_n 0, 1) := by decide +kernel
theorem d_PM_count_65 : decode prog_1_method_19_code 65 = .ok (.getfield 40, 3) := by decide +kernel
theorem d_PM_count_68 : decode prog_1_method_19_code 68 = .ok (.getfield 164, 3) := by decide +kernel
theorem d_PM_count_71 : decode prog_1_method_19_code 71 = .ok (.ireturn, 1) := by decide +kernel
theorem d_PM_count_72 : decode prog_1_method_19_code 72 = .ok (.aload_n 0, 1) := by decide +kernel
theorem d_PM_count_73 : decode prog_1_method_19_code 73 = .ok (.getfield 59, 3) := by decide +kernel
theorem d_PM_count_76 : decode prog_1_method_19_code 76 = .ok (.ireturn, 1) := by decide +kernel
theorem d_PM_count_77 : decode prog_1_method_19_code 77 = .ok (.aload_n 0, 1) := by decide +kernel
theorem d_PM_count_78 : decode prog_1_method_19_code 78 = .ok (.getfield 26, 3) := by decide +kernel
theorem d_PM_count_81 : decode prog_1_method_19_code 81 = .ok (.getfield 186, 3) := by decide +kernel
theorem d_PM_count_84 : decode prog_1_method_19_code 84 = .ok (.ireturn, 1) := by decide +kernel
theorem d_PM_count_85 : decode prog_1_method_19_code 85 = .ok (.new 144, 3) := by decide +kernel
theorem d_PM_count_88 : decode prog_1_method_19_code 88 = .ok (.dup, 1) := by decide +kernel
theorem d_PM_count_89 : decode prog_1_method_19_code 89 = .ok (.ldc 189, 2) := by decide +kernel
theorem d_PM_count_91 : decode prog_1_method_19_code 91 = .ok (.invokespecial 148, 3) := by decide +kernel
theorem d_PM_count_94 : decode prog_1_method_19_code 94 = .ok (.athrow, 1) := by decide +kernel
theorem d_PM_needPlace_0 : decode prog_1_method_20_code 0 = .ok (.iload_n 1, 1) := by decide +kernel
theorem d_PM_needPlace_1 : decode prog_1_method_20_code 1 = .ok (.aload_n 0, 1) := by decide +kernel
theorem d_PM_needPlace_2 : decode prog_1_method_20_code 2 = .ok (.getfield 10, 3) := by decide +kernel
theorem d_PM_needPlace_5 : decode prog_1_method_20_code 5 = .ok (.getfield 72, 3) := by decide +kernel
theorem d_PM_needPlace_8 : decode prog_1_method_20_code 8 = .ok (.invokestatic 132, 3) := by decide +kernel
theorem d_PM_needPlace_11 : decode prog_1_method_20_code 11 = .ok (.return_, 1) := by decide +kernel
theorem d_PM_needObject_0 : decode prog_1_method_21_code 0 = .ok (.iload_n 1, 1) := by decide +kernel
theorem d_PM_needObject_1 : decode prog_1_method_21_code 1 = .ok (.aload_n 0, 1) := by decide +kernel
theorem d_PM_needObject_2 : decode prog_1_method_21_code 2 = .ok (.getfield 19, 3) := by decide +kernel
theorem d_PM_needObject_5 : decode prog_1_method_21_code 5 = .ok (.getfield 84, 3) := by decide +kernel
theorem d_PM_needObject_8 : decode prog_1_method_21_code 8 = .ok (.invokestatic 132, 3) := by decide +kernel
theorem d_PM_needObject_11 : decode prog_1_method_21_code 11 = .ok (.return_, 1) := by decide +kernel
theorem d_PM_needPerson_0 : decode prog_1_method_22_code 0 = .ok (.iload_n 1, 1) := by decide +kernel
theorem d_PM_needPerson_1 : decode prog_1_method_22_code 1 = .ok (.bipush 10, 2) := by decide +kernel
theorem d_PM_needPerson_3 : decode prog_1_method_22_code 3 = .ok (.invokestatic 132, 3) := by decide +kernel
theorem d_PM_needPerson_6 : decode prog_1_method_22_code 6 = .ok (.return_, 1) := by decide +kernel
theorem d_PM_needKnown_0 : decode prog_1_method_23_code 0 = .ok (.iload_n 0, 1) := by decide +kernel
theorem d_PM_needKnown_1 : decode prog_1_method_23_code 1 = .ok (.ifCond .lt 8, 3) := by decide +kernel
theorem d_PM_needKnown_4 : decode prog_1_method_23_code 4 = .ok (.iload_n 0, 1) := by decide +kernel
theorem d_PM_needKnown_5 : decode prog_1_method_23_code 5 = .ok (.iload_n 1, 1) := by decide +kernel
theorem d_PM_needKnown_6 : decode prog_1_method_23_code 6 = .ok (.if_icmp .lt 13, 3) := by decide +kernel
theorem d_PM_needKnown_9 : decode prog_1_method_23_code 9 = .ok (.new 191, 3) := by decide +kernel
theorem d_PM_needKnown_12 : decode prog_1_method_23_code 12 = .ok (.dup, 1) := by decide +kernel
theorem d_PM_needKnown_13 : decode prog_1_method_23_code 13 = .ok (.ldc 193, 2) := by decide +kernel
theorem d_PM_needKnown_15 : decode prog_1_method_23_code 15 = .ok (.invokespecial 195, 3) := by decide +kernel
theorem d_PM_needKnown_18 : decode prog_1_method_23_code 18 = .ok (.athrow, 1) := by decide +kernel
theorem d_PM_needKnown_19 : decode prog_1_method_23_code 19 = .ok (.return_, 1) := by decide +kernel
theorem d_PM_needRange_0 : decode prog_1_method_24_code 0 = .ok (.iload_n 0, 1) := by decide +kernel
theorem d_PM_needRange_1 : decode prog_1_method_24_code 1 = .ok (.iload_n 1, 1) := by decide +kernel
theorem d_PM_needRange_2 : decode prog_1_method_24_code 2 = .ok (.if_icmp .lt 8, 3) := by decide +kernel
theorem d_PM_needRange_5 : decode prog_1_method_24_code 5 = .ok (.iload_n 0, 1) := by decide +kernel
theorem d_PM_needRange_6 : decode prog_1_method_24_code 6 = .ok (.iload_n 2, 1) := by decide +kernel
theorem d_PM_needRange_7 : decode prog_1_method_24_code 7 = .ok (.if_icmp .le 13, 3) := by decide +kernel
theorem d_PM_needRange_10 : decode prog_1_method_24_code 10 = .ok (.new 144, 3) := by decide +kernel
theorem d_PM_needRange_13 : decode prog_1_method_24_code 13 = .ok (.dup, 1) := by decide +kernel
theorem d_PM_needRange_14 : decode prog_1_method_24_code 14 = .ok (.ldc 196, 2) := by decide +kernel
theorem d_PM_needRange_16 : decode prog_1_method_24_code 16 = .ok (.invokespecial 148, 3) := by decide +kernel
theorem d_PM_needRange_19 : decode prog_1_method_24_code 19 = .ok (.athrow, 1) := by decide +kernel
theorem d_PM_needRange_20 : decode prog_1_method_24_code 20 = .ok (.return_, 1) := by decide +kernel
theorem d_PM_needRoom_0 : decode prog_1_method_25_code 0 = .ok (.iload_n 0, 1) := by decide +kernel
theorem d_PM_needRoom_1 : decode prog_1_method_25_code 1 = .ok (.iload_n 1, 1) := by decide +kernel
theorem d_PM_needRoom_2 : decode prog_1_method_25_code 2 = .ok (.if_icmp .lt 13, 3) := by decide +kernel
theorem d_PM_needRoom_5 : decode prog_1_method_25_code 5 = .ok (.new 198, 3) := by decide +kernel
theorem d_PM_needRoom_8 : decode prog_1_method_25_code 8 = .ok (.dup, 1) := by decide +kernel
theorem d_PM_needRoom_9 : decode prog_1_method_25_code 9 = .ok (.ldc 200, 2) := by decide +kernel
theorem d_PM_needRoom_11 : decode prog_1_method_25_code 11 = .ok (.invokespecial 202, 3) := by decide +kernel
theorem d_PM_needRoom_14 : decode prog_1_method_25_code 14 = .ok (.athrow, 1) := by decide +kernel
theorem d_PM_needRoom_15 : decode prog_1_method_25_code 15 = .ok (.return_, 1) := by decide +kernel
theorem d_PM_needKeysOf_0 : decode prog_1_method_26_code 0 = .ok (.aload_n 0, 1) := by decide +kernel
theorem d_PM_needKeysOf_1 : decode prog_1_method_26_code 1 = .ok (.getfield 19, 3) := by decide +kernel
theorem d_PM_needKeysOf_4 : decode prog_1_method_26_code 4 = .ok (.getfield 91, 3) := by decide +kernel
theorem d_PM_needKeysOf_7 : decode prog_1_method_26_code 7 = .ok (.iload_n 1, 1) := by decide +kernel
theorem d_PM_needKeysOf_8 : decode prog_1_method_26_code 8 = .ok (.iaload, 1) := by decide +kernel
theorem d_PM_needKeysOf_9 : decode prog_1_method_26_code 9 = .ok (.istore 4, 2) := by decide +kernel
theorem d_PM_needKeysOf_11 : decode prog_1_method_26_code 11 = .ok (.iload 4, 2) := by decide +kernel
theorem d_PM_needKeysOf_13 : decode prog_1_method_26_code 13 = .ok (.ifCond .eq 47, 3) := by decide +kernel
theorem d_PM_needKeysOf_16 : decode prog_1_method_26_code 16 = .ok (.iload 4, 2) := by decide +kernel
theorem d_PM_needKeysOf_18 : decode prog_1_method_26_code 18 = .ok (.iconst 1, 1) := by decide +kernel
theorem d_PM_needKeysOf_19 : decode prog_1_method_26_code 19 = .ok (.if_icmp .ne 12, 3) := by decide +kernel
theorem d_PM_needKeysOf_22 : decode prog_1_method_26_code 22 = .ok (.aload_n 0, 1) := by decide +kernel
theorem d_PM_needKeysOf_23 : decode prog_1_method_26_code 23 = .ok (.getfield 51, 3) := by decide +kernel
theorem d_PM_needKeysOf_26 : decode prog_1_method_26_code 26 = .ok (.iload_n 2, 1) := by decide +kernel
theorem d_PM_needKeysOf_27 : decode prog_1_method_26_code 27 = .ok (.baload, 1) := by decide +kernel
theorem d_PM_needKeysOf_28 : decode prog_1_method_26_code 28 = .ok (.ifCond .ne 32, 3) := by decide +kernel
theorem d_PM_needKeysOf_31 : decode prog_1_method_26_code 31 = .ok (.iload 4, 2) := by decide +kernel
theorem d_PM_needKeysOf_33 : decode prog_1_method_26_code 33 = .ok (.iconst 2, 1) := by decide +kernel
theorem d_PM_needKeysOf_34 : decode prog_1_method_26_code 34 = .ok (.if_icmp .ne 30, 3) := by decide +kernel
theorem d_PM_needKeysOf_37 : decode prog_1_method_26_code 37 = .ok (.aload_n 0, 1) := by decide +kernel
theorem d_PM_needKeysOf_38 : decode prog_1_method_26_code 38 = .ok (.getfield 51, 3) := by decide +kernel
theorem d_PM_needKeysOf_41 : decode prog_1_method_26_code 41 = .ok (.iload_n 2, 1) := by decide +kernel
theorem d_PM_needKeysOf_42 : decode prog_1_method_26_code 42 = .ok (.baload, 1) := by decide +kernel
theorem d_PM_needKeysOf_43 : decode prog_1_method_26_code 43 = .ok (.ifCond .eq 21, 3) := by decide +kernel
theorem d_PM_needKeysOf_46 : decode prog_1_method_26_code 46 = .ok (.aload_n 0, 1) := by decide +kernel
theorem d_PM_needKeysOf_47 : decode prog_1_method_26_code 47 = .ok (.getfield 51, 3) := by decide +kernel
theorem d_PM_needKeysOf_50 : decode prog_1_method_26_code 50 = .ok (.iload_n 3, 1) := by decide +kernel
theorem d_PM_needKeysOf_51 : decode prog_1_method_26_code 51 = .ok (.baload, 1) := by decide +kernel
theorem d_PM_needKeysOf_52 : decode prog_1_method_26_code 52 = .ok (.ifCond .eq 12, 3) := by decide +kernel
theorem d_PM_needKeysOf_55 : decode prog_1_method_26_code 55 = .ok (.iload_n 2, 1) := by decide +kernel
theorem d_PM_needKeysOf_56 : decode prog_1_method_26_code 56 = .ok (.iload_n 3, 1) := by decide +kernel
theorem d_PM_needKeysOf_57 : decode prog_1_method_26_code 57 = .ok (.if_icmp .eq 7, 3) := by decide +kernel
theorem d_PM_needKeysOf_60 : decode prog_1_method_26_code 60 = .ok (.iconst 1, 1) := by decide +kernel
theorem d_PM_needKeysOf_61 : decode prog_1_method_26_code 61 = .ok (.goto 4, 3) := by decide +kernel
theorem d_PM_needKeysOf_64 : decode prog_1_method_26_code 64 = .ok (.iconst 0, 1) := by decide +kernel
theorem d_PM_needKeysOf_65 : decode prog_1_method_26_code 65 = .ok (.istore 5, 2) := by decide +kernel
theorem d_PM_needKeysOf_67 : decode prog_1_method_26_code 67 = .ok (.iload 5, 2) := by decide +kernel
theorem d_PM_needKeysOf_69 : decode prog_1_method_26_code 69 = .ok (.ifCond .ne 13, 3) := by decide +kernel
theorem d_PM_needKeysOf_72 : decode prog_1_method_26_code 72 = .ok (.new 198, 3) := by decide +kernel
theorem d_PM_needKeysOf_75 : decode prog_1_method_26_code 75 = .ok (.dup, 1) := by decide +kernel
theorem d_PM_needKeysOf_76 : decode prog_1_method_26_code 76 = .ok (.ldc 203, 2) := by decide +kernel
theorem d_PM_needKeysOf_78 : decode prog_1_method_26_code 78 = .ok (.invokespecial 202, 3) := by decide +kernel
theorem d_PM_needKeysOf_81 : decode prog_1_method_26_code 81 = .ok (.athrow, 1) := by decide +kernel
theorem d_PM_needKeysOf_82 : decode prog_1_method_26_code 82 = .ok (.return_, 1) := by decide +kernel
theorem d_PM_placeAt_0 : decode prog_1_method_27_code 0 = .ok (.iload_n 1, 1) := by decide +kernel
theorem d_PM_placeAt_1 : decode prog_1_method_27_code 1 = .ok (.istore_n 3, 1) := by decide +kernel
theorem d_PM_placeAt_2 : decode prog_1_method_27_code 2 = .ok (.iconst 0, 1) := by decide +kernel
theorem d_PM_placeAt_3 : decode prog_1_method_27_code 3 = .ok (.istore 4, 2) := by decide +kernel
theorem d_PM_placeAt_5 : decode prog_1_method_27_code 5 = .ok (.iload 4, 2) := by decide +kernel
theorem d_PM_placeAt_7 : decode prog_1_method_27_code 7 = .ok (.bipush 20, 2) := by decide +kernel
theorem d_PM_placeAt_9 : decode prog_1_method_27_code 9 = .ok (.if_icmp .ge 77, 3) := by decide +kernel
theorem d_PM_placeAt_12 : decode prog_1_method_27_code 12 = .ok (.aload_n 0, 1) := by decide +kernel
theorem d_PM_placeAt_13 : decode prog_1_method_27_code 13 = .ok (.getfield 26, 3) := by decide +kernel
theorem d_PM_placeAt_16 : decode prog_1_method_27_code 16 = .ok (.iload_n 3, 1) := by decide +kernel
theorem d_PM_placeAt_17 : decode prog_1_method_27_code 17 = .ok (.iload_n 2, 1) := by decide +kernel
theorem d_PM_placeAt_18 : decode prog_1_method_27_code 18 = .ok (.invokevirtual 123, 3) := by decide +kernel
theorem d_PM_placeAt_21 : decode prog_1_method_27_code 21 = .ok (.istore 5, 2) := by decide +kernel
theorem d_PM_placeAt_23 : decode prog_1_method_27_code 23 = .ok (.iload 5, 2) := by decide +kernel
theorem d_PM_placeAt_25 : decode prog_1_method_27_code 25 = .ok (.iconst (-1), 1) := by decide +kernel
theorem d_PM_placeAt_26 : decode prog_1_method_27_code 26 = .ok (.if_icmp .eq 17, 3) := by decide +kernel
theorem d_PM_placeAt_29 : decode prog_1_method_27_code 29 = .ok (.aload_n 0, 1) := by decide +kernel
theorem d_PM_placeAt_30 : decode prog_1_method_27_code 30 = .ok (.getfield 26, 3) := by decide +kernel
theorem d_PM_placeAt_33 : decode prog_1_method_27_code 33 = .ok (.getfield 126, 3) := by decide +kernel
theorem d_PM_placeAt_36 : decode prog_1_method_27_code 36 = .ok (.iload 5, 2) := by decide +kernel
theorem d_PM_placeAt_38 : decode prog_1_method_27_code 38 = .ok (.iaload, 1) := by decide +kernel
theorem d_PM_placeAt_39 : decode prog_1_method_27_code 39 = .ok (.iconst 2, 1) := by decide +kernel
theorem d_PM_placeAt_40 : decode prog_1_method_27_code 40 = .ok (.if_icmp .ne 5, 3) := by decide +kernel
theorem d_PM_placeAt_43 : decode prog_1_method_27_code 43 = .ok (.iconst (-1), 1) := by decide +kernel
theorem d_PM_placeAt_44 : decode prog_1_method_27_code 44 = .ok (.ireturn, 1) := by decide +kernel
theorem d_PM_placeAt_45 : decode prog_1_method_27_code 45 = .ok (.aload_n 0, 1) := by decide +kernel
theorem d_PM_placeAt_46 : decode prog_1_method_27_code 46 = .ok (.getfield 26, 3) := by decide +kernel
theorem d_PM_placeAt_49 : decode prog_1_method_27_code 49 = .ok (.getfield 126, 3) := by decide +kernel
theorem d_PM_placeAt_52 : decode prog_1_method_27_code 52 = .ok (.iload 5, 2) := by decide +kernel
theorem d_PM_placeAt_54 : decode prog_1_method_27_code 54 = .ok (.iaload, 1) := by decide +kernel
theorem d_PM_placeAt_55 : decode prog_1_method_27_code 55 = .ok (.ifCond .ne 14, 3) := by decide +kernel
theorem d_PM_placeAt_58 : decode prog_1_method_27_code 58 = .ok (.aload_n 0, 1) := by decide +kernel
theorem d_PM_placeAt_59 : decode prog_1_method_27_code 59 = .ok (.getfield 26, 3) := by decide +kernel
theorem d_PM_placeAt_62 : decode prog_1_method_27_code 62 = .ok (.getfield 141, 3) := by decide +kernel
theorem d_PM_placeAt_65 : decode prog_1_method_27_code 65 = .ok (.iload 5, 2) := by decide +kernel
theorem d_PM_placeAt_67 : decode prog_1_method_27_code 67 = .ok (.iaload, 1) := by decide +kernel
theorem d_PM_placeAt_68 : decode prog_1_method_27_code 68 = .ok (.ireturn, 1) := by decide +kernel
theorem d_PM_placeAt_69 : decode prog_1_method_27_code 69 = .ok (.aload_n 0, 1) := by decide +kernel
theorem d_PM_placeAt_70 : decode prog_1_method_27_code 70 = .ok (.getfield 26, 3) := by decide +kernel
theorem d_PM_placeAt_73 : decode prog_1_method_27_code 73 = .ok (.getfield 141, 3) := by decide +kernel
theorem d_PM_placeAt_76 : decode prog_1_method_27_code 76 = .ok (.iload 5, 2) := by decide +kernel
theorem d_PM_placeAt_78 : decode prog_1_method_27_code 78 = .ok (.iaload, 1) := by decide +kernel
theorem d_PM_placeAt_79 : decode prog_1_method_27_code 79 = .ok (.istore_n 3, 1) := by decide +kernel
theorem d_PM_placeAt_80 : decode prog_1_method_27_code 80 = .ok (.iinc 4 1, 3) := by decide +kernel
theorem d_PM_placeAt_83 : decode prog_1_method_27_code 83 = .ok (.goto (-78), 3) := by decide +kernel
theorem d_PM_placeAt_86 : decode prog_1_method_27_code 86 = .ok (.iconst (-1), 1) := by decide +kernel
theorem d_PM_placeAt_87 : decode prog_1_method_27_code 87 = .ok (.ireturn, 1) := by decide +kernel
theorem d_PM_standsSince_0 : decode prog_1_method_28_code 0 = .ok (.iconst (-1), 1) := by decide +kernel
theorem d_PM_standsSince_1 : decode prog_1_method_28_code 1 = .ok (.istore_n 3, 1) := by decide +kernel
theorem d_PM_standsSince_2 : decode prog_1_method_28_code 2 = .ok (.iload_n 1, 1) := by decide +kernel
theorem d_PM_standsSince_3 : decode prog_1_method_28_code 3 = .ok (.istore 4, 2) := by decide +kernel
theorem d_PM_standsSince_5 : decode prog_1_method_28_code 5 = .ok (.iconst 0, 1) := by decide +kernel
theorem d_PM_standsSince_6 : decode prog_1_method_28_code 6 = .ok (.istore 5, 2) := by decide +kernel
theorem d_PM_standsSince_8 : decode prog_1_method_28_code 8 = .ok (.iload 5, 2) := by decide +kernel
theorem d_PM_standsSince_10 : decode prog_1_method_28_code 10 = .ok (.bipush 20, 2) := by decide +kernel
theorem d_PM_standsSince_12 : decode prog_1_method_28_code 12 = .ok (.if_icmp .ge 72, 3) := by decide +kernel
theorem d_PM_standsSince_15 : decode prog_1_method_28_code 15 = .ok (.aload_n 0, 1) := by decide +kernel
theorem d_PM_standsSince_16 : decode prog_1_method_28_code 16 = .ok (.getfield 26, 3) := by decide +kernel
theorem d_PM_standsSince_19 : decode prog_1_method_28_code 19 = .ok (.iload 4, 2) := by decide +kernel
theorem d_PM_standsSince_21 : decode prog_1_method_28_code 21 = .ok (.iload_n 2, 1) := by decide +kernel
theorem d_PM_standsSince_22 : decode prog_1_method_28_code 22 = .ok (.invokevirtual 123, 3) := by decide +kernel
theorem d_PM_standsSince_25 : decode prog_1_method_28_code 25 = .ok (.istore 6, 2) := by decide +kernel
theorem d_PM_standsSince_27 : decode prog_1_method_28_code 27 = .ok (.iload 6, 2) := by decide +kernel
theorem d_PM_standsSince_29 : decode prog_1_method_28_code 29 = .ok (.iconst (-1), 1) := by decide +kernel
theorem d_PM_standsSince_30 : decode prog_1_method_28_code 30 = .ok (.if_icmp .ne 5, 3) := by decide +kernel
theorem d_PM_standsSince_33 : decode prog_1_method_28_code 33 = .ok (.iload_n 3, 1) := by decide +kernel
theorem d_PM_standsSince_34 : decode prog_1_method_28_code 34 = .ok (.ireturn, 1) := by decide +kernel
theorem d_PM_standsSince_35 : decode prog_1_method_28_code 35 = .ok (.iload_n 3, 1) := by decide +kernel
theorem d_PM_standsSince_36 : decode prog_1_method_28_code 36 = .ok (.aload_n 0, 1) := by decide +kernel
theorem d_PM_standsSince_37 : decode prog_1_method_28_code 37 = .ok (.getfield 26, 3) := by decide +kernel
theorem d_PM_standsSince_40 : decode prog_1_method_28_code 40 = .ok (.getfield 138, 3) := by decide +kernel
theorem d_PM_standsSince_43 : decode prog_1_method_28_code 43 = .ok (.iload 6, 2) := by decide +kernel
theorem d_PM_standsSince_45 : decode prog_1_method_28_code 45 = .ok (.iaload, 1) := by decide +kernel
theorem d_PM_standsSince_46 : decode prog_1_method_28_code 46 = .ok (.invokestatic 205, 3) := by decide +kernel
theorem d_PM_standsSince_49 : decode prog_1_method_28_code 49 = .ok (.istore_n 3, 1) := by decide +kernel
theorem d_PM_standsSince_50 : decode prog_1_method_28_code 50 = .ok (.aload_n 0, 1) := by decide +kernel
theorem d_PM_standsSince_51 : decode prog_1_method_28_code 51 = .ok (.getfield 26, 3) := by decide +kernel
theorem d_PM_standsSince_54 : decode prog_1_method_28_code 54 = .ok (.getfield 126, 3) := by decide +kernel
theorem d_PM_standsSince_57 : decode prog_1_method_28_code 57 = .ok (.iload 6, 2) := by decide +kernel
theorem d_PM_standsSince_59 : decode prog_1_method_28_code 59 = .ok (.iaload, 1) := by decide +kernel
theorem d_PM_standsSince_60 : decode prog_1_method_28_code 60 = .ok (.iconst 1, 1) := by decide +kernel
theorem d_PM_standsSince_61 : decode prog_1_method_28_code 61 = .ok (.if_icmp .eq 5, 3) := by decide +kernel
theorem d_PM_standsSince_64 : decode prog_1_method_28_code 64 = .ok (.iload_n 3, 1) := by decide +kernel
theorem d_PM_standsSince_65 : decode prog_1_method_28_code 65 = .ok (.ireturn, 1) := by decide +kernel
theorem d_PM_standsSince_66 : decode prog_1_method_28_code 66 = .ok (.aload_n 0, 1) := by decide +kernel
theorem d_PM_standsSince_67 : decode prog_1_method_28_code 67 = .ok (.getfield 26, 3) := by decide +kernel
theorem d_PM_standsSince_70 : decode prog_1_method_28_code 70 = .ok (.getfield 141, 3) := by decide +kernel
theorem d_PM_standsSince_73 : decode prog_1_method_28_code 73 = .ok (.iload 6, 2) := by decide +kernel
theorem d_PM_standsSince_75 : decode prog_1_method_28_code 75 = .ok (.iaload, 1) := by decide +kernel
theorem d_PM_standsSince_76 : decode prog_1_method_28_code 76 = .ok (.istore 4, 2) := by decide +kernel
theorem d_PM_standsSince_78 : decode prog_1_method_28_code 78 = .ok (.iinc 5 1, 3) := by decide +kernel
theorem d_PM_standsSince_81 : decode prog_1_method_28_code 81 = .ok (.goto (-73), 3) := by decide +kernel
theorem d_PM_standsSince_84 : decode prog_1_method_28_code 84 = .ok (.iload_n 3, 1) := by decide +kernel
theorem d_PM_standsSince_85 : decode prog_1_method_28_code 85 = .ok (.ireturn, 1) := by decide +kernel
theorem d_PM_isWithin_0 : decode prog_1_method_29_code 0 = .ok (.iload_n 1, 1) := by decide +kernel
theorem d_PM_isWithin_1 : decode prog_1_method_29_code 1 = .ok (.istore 4, 2) := by decide +kernel
theorem d_PM_isWithin_3 : decode prog_1_method_29_code 3 = .ok (.iconst 0, 1) := by decide +kernel
theorem d_PM_isWithin_4 : decode prog_1_method_29_code 4 = .ok (.istore 5, 2) := by decide +kernel
theorem d_PM_isWithin_6 : decode prog_1_method_29_code 6 = .ok (.iload 5, 2) := by decide +kernel
theorem d_PM_isWithin_8 : decode prog_1_method_29_code 8 = .ok (.bipush 20, 2) := by decide +kernel
theorem d_PM_isWithin_10 : decode prog_1_method_29_code 10 = .ok (.if_icmp .ge 63, 3) := by decide +kernel
theorem d_PM_isWithin_13 : decode prog_1_method_29_code 13 = .ok (.aload_n 0, 1) := by decide +kernel
theorem d_PM_isWithin_14 : decode prog_1_method_29_code 14 = .ok (.getfield 26, 3) := by decide +kernel
theorem d_PM_isWithin_17 : decode prog_1_method_29_code 17 = .ok (.iload 4, 2) := by decide +kernel
theorem d_PM_isWithin_19 : decode prog_1_method_29_code 19 = .ok (.iload_n 3, 1) := by decide +kernel
theorem d_PM_isWithin_20 : decode prog_1_method_29_code 20 = .ok (.invokevirtual 123, 3) := by decide +kernel
theorem d_PM_isWithin_23 : decode prog_1_method_29_code 23 = .ok (.istore 6, 2) := by decide +kernel
theorem d_PM_isWithin_25 : decode prog_1_method_29_code 25 = .ok (.iload 6, 2) := by decide +kernel
theorem d_PM_isWithin_27 : decode prog_1_method_29_code 27 = .ok (.iconst (-1), 1) := by decide +kernel
theorem d_PM_isWithin_28 : decode prog_1_method_29_code 28 = .ok (.if_icmp .eq 17, 3) := by decide +kernel
theorem d_PM_isWithin_31 : decode prog_1_method_29_code 31 = .ok (.aload_n 0, 1) := by decide +kernel
theorem d_PM_isWithin_32 : decode prog_1_method_29_code 32 = .ok (.getfield 26, 3) := by decide +kernel
theorem d_PM_isWithin_35 : decode prog_1_method_29_code 35 = .ok (.getfield 126, 3) := by decide +kernel
theorem d_PM_isWithin_38 : decode prog_1_method_29_code 38 = .ok (.iload 6, 2) := by decide +kernel
theorem d_PM_isWithin_40 : decode prog_1_method_29_code 40 = .ok (.iaload, 1) := by decide +kernel
theorem d_PM_isWithin_41 : decode prog_1_method_29_code 41 = .ok (.iconst 1, 1) := by decide +kernel
theorem d_PM_isWithin_42 : decode prog_1_method_29_code 42 = .ok (.if_icmp .eq 5, 3) := by decide +kernel
theorem d_PM_isWithin_45 : decode prog_1_method_29_code 45 = .ok (.iconst 0, 1) := by decide +kernel
theorem d_PM_isWithin_46 : decode prog_1_method_29_code 46 = .ok (.ireturn, 1) := by decide +kernel
theorem d_PM_isWithin_47 : decode prog_1_method_29_code 47 = .ok (.aload_n 0, 1) := by decide +kernel
theorem d_PM_isWithin_48 : decode prog_1_method_29_code 48 = .ok (.getfield 26, 3) := by decide +kernel
theorem d_PM_isWithin_51 : decode prog_1_method_29_code 51 = .ok (.getfield 141, 3) := by decide +kernel
theorem d_PM_isWithin_54 : decode prog_1_method_29_code 54 = .ok (.iload 6, 2) := by decide +kernel
theorem d_PM_isWithin_56 : decode prog_1_method_29_code 56 = .ok (.iaload, 1) := by decide +kernel
theorem d_PM_isWithin_57 : decode prog_1_method_29_code 57 = .ok (.istore 4, 2) := by decide +kernel
theorem d_PM_isWithin_59 : decode prog_1_method_29_code 59 = .ok (.iload 4, 2) := by decide +kernel
theorem d_PM_isWithin_61 : decode prog_1_method_29_code 61 = .ok (.iload_n 2, 1) := by decide +kernel
theorem d_PM_isWithin_62 : decode prog_1_method_29_code 62 = .ok (.if_icmp .ne 5, 3) := by decide +kernel
theorem d_PM_isWithin_65 : decode prog_1_method_29_code 65 = .ok (.iconst 1, 1) := by decide +kernel
theorem d_PM_isWithin_66 : decode prog_1_method_29_code 66 = .ok (.ireturn, 1) := by decide +kernel
theorem d_PM_isWithin_67 : decode prog_1_method_29_code 67 = .ok (.iinc 5 1, 3) := by decide +kernel
theorem d_PM_isWithin_70 : decode prog_1_method_29_code 70 = .ok (.goto (-64), 3) := by decide +kernel
theorem d_PM_isWithin_73 : decode prog_1_method_29_code 73 = .ok (.iconst 0, 1) := by decide +kernel
theorem d_PM_isWithin_74 : decode prog_1_method_29_code 74 = .ok (.ireturn, 1) := by decide +kernel
theorem d_PM_isBarred_0 : decode prog_1_method_30_code 0 = .ok (.iconst 0, 1) := by decide +kernel
theorem d_PM_isBarred_1 : decode prog_1_method_30_code 1 = .ok (.istore 4, 2) := by decide +kernel
theorem d_PM_isBarred_3 : decode prog_1_method_30_code 3 = .ok (.iload 4, 2) := by decide +kernel
theorem d_PM_isBarred_5 : decode prog_1_method_30_code 5 = .ok (.aload_n 0, 1) := by decide +kernel
theorem d_PM_isBarred_6 : decode prog_1_method_30_code 6 = .ok (.getfield 47, 3) := by decide +kernel
theorem d_PM_isBarred_9 : decode prog_1_method_30_code 9 = .ok (.getfield 183, 3) := by decide +kernel
theorem d_PM_isBarred_12 : decode prog_1_method_30_code 12 = .ok (.if_icmp .ge 59, 3) := by decide +kernel
theorem d_PM_isBarred_15 : decode prog_1_method_30_code 15 = .ok (.aload_n 0, 1) := by decide +kernel
theorem d_PM_isBarred_16 : decode prog_1_method_30_code 16 = .ok (.getfield 47, 3) := by decide +kernel
theorem d_PM_isBarred_19 : decode prog_1_method_30_code 19 = .ok (.getfield 210, 3) := by decide +kernel
theorem d_PM_isBarred_22 : decode prog_1_method_30_code 22 = .ok (.iload 4, 2) := by decide +kernel
theorem d_PM_isBarred_24 : decode prog_1_method_30_code 24 = .ok (.iaload, 1) := by decide +kernel
theorem d_PM_isBarred_25 : decode prog_1_method_30_code 25 = .ok (.istore 5, 2) := by decide +kernel
theorem d_PM_isBarred_27 : decode prog_1_method_30_code 27 = .ok (.aload_n 0, 1) := by decide +kernel
theorem d_PM_isBarred_28 : decode prog_1_method_30_code 28 = .ok (.getfield 47, 3) := by decide +kernel
theorem d_PM_isBarred_31 : decode prog_1_method_30_code 31 = .ok (.iload 4, 2) := by decide +kernel
theorem d_PM_isBarred_33 : decode prog_1_method_30_code 33 = .ok (.iload_n 3, 1) := by decide +kernel
theorem d_PM_isBarred_34 : decode prog_1_method_30_code 34 = .ok (.invokevirtual 213, 3) := by decide +kernel
theorem d_PM_isBarred_37 : decode prog_1_method_30_code 37 = .ok (.ifCond .eq 28, 3) := by decide +kernel
theorem d_PM_isBarred_40 : decode prog_1_method_30_code 40 = .ok (.aload_n 0, 1) := by decide +kernel
theorem d_PM_isBarred_41 : decode prog_1_method_30_code 41 = .ok (.getfield 10, 3) := by decide +kernel
theorem d_PM_isBarred_44 : decode prog_1_method_30_code 44 = .ok (.iload_n 1, 1) := by decide +kernel
theorem d_PM_isBarred_45 : decode prog_1_method_30_code 45 = .ok (.iload 5, 2) := by decide +kernel
theorem d_PM_isBarred_47 : decode prog_1_method_30_code 47 = .ok (.invokevirtual 216, 3) := by decide +kernel
theorem d_PM_isBarred_50 : decode prog_1_method_30_code 50 = .ok (.aload_n 0, 1) := by decide +kernel
theorem d_PM_isBarred_51 : decode prog_1_method_30_code 51 = .ok (.getfield 10, 3) := by decide +kernel
theorem d_PM_isBarred_54 : decode prog_1_method_30_code 54 = .ok (.iload_n 2, 1) := by decide +kernel
theorem d_PM_isBarred_55 : decode prog_1_method_30_code 55 = .ok (.iload 5, 2) := by decide +kernel
theorem d_PM_isBarred_57 : decode prog_1_method_30_code 57 = .ok (.invokevirtual 216, 3) := by decide +kernel
theorem d_PM_isBarred_60 : decode prog_1_method_30_code 60 = .ok (.if_icmp .eq 5, 3) := by decide +kernel
theorem d_PM_isBarred_63 : decode prog_1_method_30_code 63 = .ok (.iconst 1, 1) := by decide +kernel
theorem d_PM_isBarred_64 : decode prog_1_method_30_code 64 = .ok (.ireturn, 1) := by decide +kernel
theorem d_PM_isBarred_65 : decode prog_1_method_30_code 65 = .ok (.iinc 4 1, 3) := by decide +kernel
theorem d_PM_isBarred_68 : decode prog_1_method_30_code 68 = .ok (.goto (-65), 3) := by decide +kernel
theorem d_PM_isBarred_71 : decode prog_1_method_30_code 71 = .ok (.iconst 0, 1) := by decide +kernel
theorem d_PM_isBarred_72 : decode prog_1_method_30_code 72 = .ok (.ireturn, 1) := by decide +kernel
theorem d_PM_comesByRow_0 : decode prog_1_method_31_code 0 = .ok (.aload_n 0, 1) := by decide +kernel
theorem d_PM_comesByRow_1 : decode prog_1_method_31_code 1 = .ok (.getfield 26, 3) := by decide +kernel
theorem d_PM_comesByRow_4 : decode prog_1_method_31_code 4 = .ok (.iload_n 1, 1) := by decide +kernel
theorem d_PM_comesByRow_5 : decode prog_1_method_31_code 5 = .ok (.iload_n 2, 1) := by decide +kernel
theorem d_PM_comesByRow_6 : decode prog_1_method_31_code 6 = .ok (.iload_n 3, 1) := by decide +kernel
theorem d_PM_comesByRow_7 : decode prog_1_method_31_code 7 = .ok (.iload 4, 2) := by decide +kernel
theorem d_PM_comesByRow_9 : decode prog_1_method_31_code 9 = .ok (.invokevirtual 219, 3) := by decide +kernel
theorem d_PM_comesByRow_12 : decode prog_1_method_31_code 12 = .ok (.aload_n 0, 1) := by decide +kernel
theorem d_PM_comesByRow_13 : decode prog_1_method_31_code 13 = .ok (.iload_n 1, 1) := by decide +kernel
theorem d_PM_comesByRow_14 : decode prog_1_method_31_code 14 = .ok (.iload_n 2, 1) := by decide +kernel
theorem d_PM_comesByRow_15 : decode prog_1_method_31_code 15 = .ok (.invokevirtual 105, 3) := by decide +kernel
theorem d_PM_comesByRow_18 : decode prog_1_method_31_code 18 = .ok (.istore 5, 2) := by decide +kernel
theorem d_PM_comesByRow_20 : decode prog_1_method_31_code 20 = .ok (.iload 5, 2) := by decide +kernel
theorem d_PM_comesByRow_22 : decode prog_1_method_31_code 22 = .ok (.iconst (-1), 1) := by decide +kernel
theorem d_PM_comesByRow_23 : decode prog_1_method_31_code 23 = .ok (.if_icmp .eq 25, 3) := by decide +kernel
theorem d_PM_comesByRow_26 : decode prog_1_method_31_code 26 = .ok (.aload_n 0, 1) := by decide +kernel
theorem d_PM_comesByRow_27 : decode prog_1_method_31_code 27 = .ok (.iload 5, 2) := by decide +kernel
theorem d_PM_comesByRow_29 : decode prog_1_method_31_code 29 = .ok (.iload_n 2, 1) := by decide +kernel
theorem d_PM_comesByRow_30 : decode prog_1_method_31_code 30 = .ok (.ldc 83, 2) := by decide +kernel
theorem d_PM_comesByRow_32 : decode prog_1_method_31_code 32 = .ok (.invokevirtual 168, 3) := by decide +kernel
theorem d_PM_comesByRow_35 : decode prog_1_method_31_code 35 = .ok (.ifCond .ne 13, 3) := by decide +kernel
theorem d_PM_comesByRow_38 : decode prog_1_method_31_code 38 = .ok (.aload_n 0, 1) := by decide +kernel
theorem d_PM_comesByRow_39 : decode prog_1_method_31_code 39 = .ok (.getfield 26, 3) := by decide +kernel
theorem d_PM_comesByRow_42 : decode prog_1_method_31_code 42 = .ok (.iload_n 1, 1) := by decide +kernel
theorem d_PM_comesByRow_43 : decode prog_1_method_31_code 43 = .ok (.invokevirtual 220, 3) := by decide +kernel
theorem d_PM_comesByRow_46 : decode prog_1_method_31_code 46 = .ok (.iconst 0, 1) := by decide +kernel
theorem d_PM_comesByRow_47 : decode prog_1_method_31_code 47 = .ok (.ireturn, 1) := by decide +kernel
theorem d_PM_comesByRow_48 : decode prog_1_method_31_code 48 = .ok (.aload_n 0, 1) := by decide +kernel
theorem d_PM_comesByRow_49 : decode prog_1_method_31_code 49 = .ok (.iload_n 2, 1) := by decide +kernel
theorem d_PM_comesByRow_50 : decode prog_1_method_31_code 50 = .ok (.putfield 59, 3) := by decide +kernel
theorem d_PM_comesByRow_53 : decode prog_1_method_31_code 53 = .ok (.iconst 1, 1) := by decide +kernel
theorem d_PM_comesByRow_54 : decode prog_1_method_31_code 54 = .ok (.ireturn, 1) := by decide +kernel
theorem d_PM_loadsHold_0 : decode prog_1_method_32_code 0 = .ok (.aload_n 0, 1) := by decide +kernel
theorem d_PM_loadsHold_1 : decode prog_1_method_32_code 1 = .ok (.iload_n 1, 1) := by decide +kernel
theorem d_PM_loadsHold_2 : decode prog_1_method_32_code 2 = .ok (.iload_n 2, 1) := by decide +kernel
theorem d_PM_loadsHold_3 : decode prog_1_method_32_code 3 = .ok (.invokevirtual 222, 3) := by decide +kernel
theorem d_PM_loadsHold_6 : decode prog_1_method_32_code 6 = .ok (.ifCond .ne 5, 3) := by decide +kernel
theorem d_PM_loadsHold_9 : decode prog_1_method_32_code 9 = .ok (.iconst 0, 1) := by decide +kernel
theorem d_PM_loadsHold_10 : decode prog_1_method_32_code 10 = .ok (.ireturn, 1) := by decide +kernel
theorem d_PM_loadsHold_11 : decode prog_1_method_32_code 11 = .ok (.iconst 0, 1) := by decide +kernel
theorem d_PM_loadsHold_12 : decode prog_1_method_32_code 12 = .ok (.istore 4, 2) := by decide +kernel
theorem d_PM_loadsHold_14 : decode prog_1_method_32_code 14 = .ok (.iload 4, 2) := by decide +kernel
theorem d_PM_loadsHold_16 : decode prog_1_method_32_code 16 = .ok (.aload_n 0, 1) := by decide +kernel
theorem d_PM_loadsHold_17 : decode prog_1_method_32_code 17 = .ok (.getfield 40, 3) := by decide +kernel
theorem d_PM_loadsHold_20 : decode prog_1_method_32_code 20 = .ok (.getfield 164, 3) := by decide +kernel
theorem d_PM_loadsHold_23 : decode prog_1_method_32_code 23 = .ok (.if_icmp .ge 45, 3) := by decide +kernel
theorem d_PM_loadsHold_26 : decode prog_1_method_32_code 26 = .ok (.aload_n 0, 1) := by decide +kernel
theorem d_PM_loadsHold_27 : decode prog_1_method_32_code 27 = .ok (.getfield 40, 3) := by decide +kernel
theorem d_PM_loadsHold_30 : decode prog_1_method_32_code 30 = .ok (.getfield 225, 3) := by decide +kernel
theorem d_PM_loadsHold_33 : decode prog_1_method_32_code 33 = .ok (.iload 4, 2) := by decide +kernel
theorem d_PM_loadsHold_35 : decode prog_1_method_32_code 35 = .ok (.iaload, 1) := by decide +kernel
theorem d_PM_loadsHold_36 : decode prog_1_method_32_code 36 = .ok (.istore 5, 2) := by decide +kernel
theorem d_PM_loadsHold_38 : decode prog_1_method_32_code 38 = .ok (.iload 5, 2) := by decide +kernel
theorem d_PM_loadsHold_40 : decode prog_1_method_32_code 40 = .ok (.iload_n 2, 1) := by decide +kernel
theorem d_PM_loadsHold_41 : decode prog_1_method_32_code 41 = .ok (.if_icmp .le 21, 3) := by decide +kernel
theorem d_PM_loadsHold_44 : decode prog_1_method_32_code 44 = .ok (.iload 5, 2) := by decide +kernel
theorem d_PM_loadsHold_46 : decode prog_1_method_32_code 46 = .ok (.iload_n 3, 1) := by decide +kernel
theorem d_PM_loadsHold_47 : decode prog_1_method_32_code 47 = .ok (.if_icmp .gt 15, 3) := by decide +kernel
theorem d_PM_loadsHold_50 : decode prog_1_method_32_code 50 = .ok (.aload_n 0, 1) := by decide +kernel
theorem d_PM_loadsHold_51 : decode prog_1_method_32_code 51 = .ok (.iload_n 1, 1) := by decide +kernel
theorem d_PM_loadsHold_52 : decode prog_1_method_32_code 52 = .ok (.iload 5, 2) := by decide +kernel
theorem d_PM_loadsHold_54 : decode prog_1_method_32_code 54 = .ok (.invokevirtual 222, 3) := by decide +kernel
theorem d_PM_loadsHold_57 : decode prog_1_method_32_code 57 = .ok (.ifCond .ne 5, 3) := by decide +kernel
theorem d_PM_loadsHold_60 : decode prog_1_method_32_code 60 = .ok (.iconst 0, 1) := by decide +kernel
theorem d_PM_loadsHold_61 : decode prog_1_method_32_code 61 = .ok (.ireturn, 1) := by decide +kernel
theorem d_PM_loadsHold_62 : decode prog_1_method_32_code 62 = .ok (.iinc 4 1, 3) := by decide +kernel
theorem d_PM_loadsHold_65 : decode prog_1_method_32_code 65 = .ok (.goto (-51), 3) := by decide +kernel
theorem d_PM_loadsHold_68 : decode prog_1_method_32_code 68 = .ok (.iconst 1, 1) := by decide +kernel
theorem d_PM_loadsHold_69 : decode prog_1_method_32_code 69 = .ok (.ireturn, 1) := by decide +kernel
theorem d_PM_loadsHoldAt_0 : decode prog_1_method_33_code 0 = .ok (.aload_n 0, 1) := by decide +kernel
theorem d_PM_loadsHoldAt_1 : decode prog_1_method_33_code 1 = .ok (.iload_n 2, 1) := by decide +kernel
theorem d_PM_loadsHoldAt_2 : decode prog_1_method_33_code 2 = .ok (.invokevirtual 174, 3) := by decide +kernel
theorem d_PM_loadsHoldAt_5 : decode prog_1_method_33_code 5 = .ok (.iconst 0, 1) := by decide +kernel
theorem d_PM_loadsHoldAt_6 : decode prog_1_method_33_code 6 = .ok (.istore_n 3, 1) := by decide +kernel
theorem d_PM_loadsHoldAt_7 : decode prog_1_method_33_code 7 = .ok (.iload_n 3, 1) := by decide +kernel
theorem d_PM_loadsHoldAt_8 : decode prog_1_method_33_code 8 = .ok (.aload_n 0, 1) := by decide +kernel
theorem d_PM_loadsHoldAt_9 : decode prog_1_method_33_code 9 = .ok (.getfield 10, 3) := by decide +kernel
theorem d_PM_loadsHoldAt_12 : decode prog_1_method_33_code 12 = .ok (.getfield 72, 3) := by decide +kernel
theorem d_PM_loadsHoldAt_15 : decode prog_1_method_33_code 15 = .ok (.if_icmp .ge 40, 3) := by decide +kernel
theorem d_PM_loadsHoldAt_18 : decode prog_1_method_33_code 18 = .ok (.aload_n 0, 1) := by decide +kernel
theorem d_PM_loadsHoldAt_19 : decode prog_1_method_33_code 19 = .ok (.getfield 10, 3) := by decide +kernel
theorem d_PM_loadsHoldAt_22 : decode prog_1_method_33_code 22 = .ok (.iload_n 1, 1) := by decide +kernel
theorem d_PM_loadsHoldAt_23 : decode prog_1_method_33_code 23 = .ok (.iload_n 3, 1) := by decide +kernel
theorem d_PM_loadsHoldAt_24 : decode prog_1_method_33_code 24 = .ok (.invokevirtual 216, 3) := by decide +kernel
theorem d_PM_loadsHoldAt_27 : decode prog_1_method_33_code 27 = .ok (.ifCond .eq 22, 3) := by decide +kernel
theorem d_PM_loadsHoldAt_30 : decode prog_1_method_33_code 30 = .ok (.aload_n 0, 1) := by decide +kernel
theorem d_PM_loadsHoldAt_31 : decode prog_1_method_33_code 31 = .ok (.iload_n 3, 1) := by decide +kernel
theorem d_PM_loadsHoldAt_32 : decode prog_1_method_33_code 32 = .ok (.invokevirtual 177, 3) := by decide +kernel
theorem d_PM_loadsHoldAt_35 : decode prog_1_method_33_code 35 = .ok (.aload_n 0, 1) := by decide +kernel
theorem d_PM_loadsHoldAt_36 : decode prog_1_method_33_code 36 = .ok (.getfield 10, 3) := by decide +kernel
theorem d_PM_loadsHoldAt_39 : decode prog_1_method_33_code 39 = .ok (.getfield 228, 3) := by decide +kernel
theorem d_PM_loadsHoldAt_42 : decode prog_1_method_33_code 42 = .ok (.iload_n 3, 1) := by decide +kernel
theorem d_PM_loadsHoldAt_43 : decode prog_1_method_33_code 43 = .ok (.iaload, 1) := by decide +kernel
theorem d_PM_loadsHoldAt_44 : decode prog_1_method_33_code 44 = .ok (.if_icmp .le 5, 3) := by decide +kernel
theorem d_PM_loadsHoldAt_47 : decode prog_1_method_33_code 47 = .ok (.iconst 0, 1) := by decide +kernel
theorem d_PM_loadsHoldAt_48 : decode prog_1_method_33_code 48 = .ok (.ireturn, 1) := by decide +kernel
theorem d_PM_loadsHoldAt_49 : decode prog_1_method_33_code 49 = .ok (.iinc 3 1, 3) := by decide +kernel
theorem d_PM_loadsHoldAt_52 : decode prog_1_method_33_code 52 = .ok (.goto (-45), 3) := by decide +kernel
theorem d_PM_loadsHoldAt_55 : decode prog_1_method_33_code 55 = .ok (.iconst 1, 1) := by decide +kernel
theorem d_PM_loadsHoldAt_56 : decode prog_1_method_33_code 56 = .ok (.ireturn, 1) := by decide +kernel
theorem d_PM_weighAt_0 : decode prog_1_method_34_code 0 = .ok (.iconst 0, 1) := by decide +kernel
theorem d_PM_weighAt_1 : decode prog_1_method_34_code 1 = .ok (.istore_n 2, 1) := by decide +kernel
theorem d_PM_weighAt_2 : decode prog_1_method_34_code 2 = .ok (.iload_n 2, 1) := by decide +kernel
theorem d_PM_weighAt_3 : decode prog_1_method_34_code 3 = .ok (.aload_n 0, 1) := by decide +kernel
theorem d_PM_weighAt_4 : decode prog_1_method_34_code 4 = .ok (.getfield 19, 3) := by decide +kernel
theorem d_PM_weighAt_7 : decode prog_1_method_34_code 7 = .ok (.getfield 84, 3) := by decide +kernel
theorem d_PM_weighAt_10 : decode prog_1_method_34_code 10 = .ok (.if_icmp .ge 28, 3) := by decide +kernel
theorem d_PM_weighAt_13 : decode prog_1_method_34_code 13 = .ok (.aload_n 0, 1) := by decide +kernel
theorem d_PM_weighAt_14 : decode prog_1_method_34_code 14 = .ok (.getfield 55, 3) := by decide +kernel
theorem d_PM_weighAt_17 : decode prog_1_method_34_code 17 = .ok (.iload_n 2, 1) := by decide +kernel
theorem d_PM_weighAt_18 : decode prog_1_method_34_code 18 = .ok (.aload_n 0, 1) := by decide +kernel
theorem d_PM_weighAt_19 : decode prog_1_method_34_code 19 = .ok (.getfield 10, 3) := by decide +kernel
theorem d_PM_weighAt_22 : decode prog_1_method_34_code 22 = .ok (.aload_n 0, 1) := by decide +kernel
theorem d_PM_weighAt_23 : decode prog_1_method_34_code 23 = .ok (.iload_n 2, 1) := by decide +kernel
theorem d_PM_weighAt_24 : decode prog_1_method_34_code 24 = .ok (.iload_n 1, 1) := by decide +kernel
theorem d_PM_weighAt_25 : decode prog_1_method_34_code 25 = .ok (.invokevirtual 105, 3) := by decide +kernel
theorem d_PM_weighAt_28 : decode prog_1_method_34_code 28 = .ok (.invokevirtual 231, 3) := by decide +kernel
theorem d_PM_weighAt_31 : decode prog_1_method_34_code 31 = .ok (.iastore, 1) := by decide +kernel
theorem d_PM_weighAt_32 : decode prog_1_method_34_code 32 = .ok (.iinc 2 1, 3) := by decide +kernel
theorem d_PM_weighAt_35 : decode prog_1_method_34_code 35 = .ok (.goto (-33), 3) := by decide +kernel
theorem d_PM_weighAt_38 : decode prog_1_method_34_code 38 = .ok (.iconst 0, 1) := by decide +kernel
theorem d_PM_weighAt_39 : decode prog_1_method_34_code 39 = .ok (.istore_n 2, 1) := by decide +kernel
theorem d_PM_weighAt_40 : decode prog_1_method_34_code 40 = .ok (.iload_n 2, 1) := by decide +kernel
theorem d_PM_weighAt_41 : decode prog_1_method_34_code 41 = .ok (.aload_n 0, 1) := by decide +kernel
theorem d_PM_weighAt_42 : decode prog_1_method_34_code 42 = .ok (.getfield 40, 3) := by decide +kernel
theorem d_PM_weighAt_45 : decode prog_1_method_34_code 45 = .ok (.getfield 164, 3) := by decide +kernel
theorem d_PM_weighAt_48 : decode prog_1_method_34_code 48 = .ok (.if_icmp .ge 54, 3) := by decide +kernel
theorem d_PM_weighAt_51 : decode prog_1_method_34_code 51 = .ok (.aload_n 0, 1) := by decide +kernel
theorem d_PM_weighAt_52 : decode prog_1_method_34_code 52 = .ok (.getfield 40, 3) := by decide +kernel
theorem d_PM_weighAt_55 : decode prog_1_method_34_code 55 = .ok (.iload_n 2, 1) := by decide +kernel
theorem d_PM_weighAt_56 : decode prog_1_method_34_code 56 = .ok (.iload_n 1, 1) := by decide +kernel
theorem d_PM_weighAt_57 : decode prog_1_method_34_code 57 = .ok (.invokevirtual 234, 3) := by decide +kernel
theorem d_PM_weighAt_60 : decode prog_1_method_34_code 60 = .ok (.ifCond .eq 36, 3) := by decide +kernel
theorem d_PM_weighAt_63 : decode prog_1_method_34_code 63 = .ok (.aload_n 0, 1) := by decide +kernel
theorem d_PM_weighAt_64 : decode prog_1_method_34_code 64 = .ok (.getfield 55, 3) := by decide +kernel
theorem d_PM_weighAt_67 : decode prog_1_method_34_code 67 = .ok (.aload_n 0, 1) := by decide +kernel
theorem d_PM_weighAt_68 : decode prog_1_method_34_code 68 = .ok (.getfield 40, 3) := by decide +kernel
theorem d_PM_weighAt_71 : decode prog_1_method_34_code 71 = .ok (.getfield 235, 3) := by decide +kernel
theorem d_PM_weighAt_74 : decode prog_1_method_34_code 74 = .ok (.iload_n 2, 1) := by decide +kernel
theorem d_PM_weighAt_75 : decode prog_1_method_34_code 75 = .ok (.iaload, 1) := by decide +kernel
theorem d_PM_weighAt_76 : decode prog_1_method_34_code 76 = .ok (.dup2, 1) := by decide +kernel
theorem d_PM_weighAt_77 : decode prog_1_method_34_code 77 = .ok (.iaload, 1) := by decide +kernel
theorem d_PM_weighAt_78 : decode prog_1_method_34_code 78 = .ok (.aload_n 0, 1) := by decide +kernel
theorem d_PM_weighAt_79 : decode prog_1_method_34_code 79 = .ok (.getfield 10, 3) := by decide +kernel
theorem d_PM_weighAt_82 : decode prog_1_method_34_code 82 = .ok (.aload_n 0, 1) := by decide +kernel
theorem d_PM_weighAt_83 : decode prog_1_method_34_code 83 = .ok (.getfield 40, 3) := by decide +kernel
theorem d_PM_weighAt_86 : decode prog_1_method_34_code 86 = .ok (.getfield 238, 3) := by decide +kernel
theorem d_PM_weighAt_89 : decode prog_1_method_34_code 89 = .ok (.iload_n 2, 1) := by decide +kernel
theorem d_PM_weighAt_90 : decode prog_1_method_34_code 90 = .ok (.iaload, 1) := by decide +kernel
theorem d_PM_weighAt_91 : decode prog_1_method_34_code 91 = .ok (.invokevirtual 231, 3) := by decide +kernel
theorem d_PM_weighAt_94 : decode prog_1_method_34_code 94 = .ok (.ior, 1) := by decide +kernel
theorem d_PM_weighAt_95 : decode prog_1_method_34_code 95 = .ok (.iastore, 1) := by decide +kernel
theorem d_PM_weighAt_96 : decode prog_1_method_34_code 96 = .ok (.iinc 2 1, 3) := by decide +kernel
theorem d_PM_weighAt_99 : decode prog_1_method_34_code 99 = .ok (.goto (-59), 3) := by decide +kernel
theorem d_PM_weighAt_102 : decode prog_1_method_34_code 102 = .ok (.return_, 1) := by decide +kernel
theorem d_PM_weightOf_0 : decode prog_1_method_35_code 0 = .ok (.iconst 0, 1) := by decide +kernel
theorem d_PM_weightOf_1 : decode prog_1_method_35_code 1 = .ok (.istore_n 2, 1) := by decide +kernel
theorem d_PM_weightOf_2 : decode prog_1_method_35_code 2 = .ok (.iconst 0, 1) := by decide +kernel
theorem d_PM_weightOf_3 : decode prog_1_method_35_code 3 = .ok (.istore_n 3, 1) := by decide +kernel
theorem d_PM_weightOf_4 : decode prog_1_method_35_code 4 = .ok (.iload_n 3, 1) := by decide +kernel
theorem d_PM_weightOf_5 : decode prog_1_method_35_code 5 = .ok (.aload_n 0, 1) := by decide +kernel
theorem d_PM_weightOf_6 : decode prog_1_method_35_code 6 = .ok (.getfield 19, 3) := by decide +kernel
theorem d_PM_weightOf_9 : decode prog_1_method_35_code 9 = .ok (.getfield 84, 3) := by decide +kernel
theorem d_PM_weightOf_12 : decode prog_1_method_35_code 12 = .ok (.if_icmp .ge 35, 3) := by decide +kernel
theorem d_PM_weightOf_15 : decode prog_1_method_35_code 15 = .ok (.aload_n 0, 1) := by decide +kernel
theorem d_PM_weightOf_16 : decode prog_1_method_35_code 16 = .ok (.getfield 55, 3) := by decide +kernel
theorem d_PM_weightOf_19 : decode prog_1_method_35_code 19 = .ok (.iload_n 3, 1) := by decide +kernel
theorem d_PM_weightOf_20 : decode prog_1_method_35_code 20 = .ok (.iaload, 1) := by decide +kernel
theorem d_PM_weightOf_21 : decode prog_1_method_35_code 21 = .ok (.iload_n 1, 1) := by decide +kernel
theorem d_PM_weightOf_22 : decode prog_1_method_35_code 22 = .ok (.iushr, 1) := by decide +kernel
theorem d_PM_weightOf_23 : decode prog_1_method_35_code 23 = .ok (.iconst 1, 1) := by decide +kernel
theorem d_PM_weightOf_24 : decode prog_1_method_35_code 24 = .ok (.iand, 1) := by decide +kernel
theorem d_PM_weightOf_25 : decode prog_1_method_35_code 25 = .ok (.iconst 1, 1) := by decide +kernel
theorem d_PM_weightOf_26 : decode prog_1_method_35_code 26 = .ok (.if_icmp .ne 15, 3) := by decide +kernel
theorem d_PM_weightOf_29 : decode prog_1_method_35_code 29 = .ok (.iload_n 2, 1) := by decide +kernel
theorem d_PM_weightOf_30 : decode prog_1_method_35_code 30 = .ok (.aload_n 0, 1) := by decide +kernel
theorem d_PM_weightOf_31 : decode prog_1_method_35_code 31 = .ok (.getfield 19, 3) := by decide +kernel
theorem d_PM_weightOf_34 : decode prog_1_method_35_code 34 = .ok (.getfield 239, 3) := by decide +kernel
theorem d_PM_weightOf_37 : decode prog_1_method_35_code 37 = .ok (.iload_n 3, 1) := by decide +kernel
theorem d_PM_weightOf_38 : decode prog_1_method_35_code 38 = .ok (.iaload, 1) := by decide +kernel
theorem d_PM_weightOf_39 : decode prog_1_method_35_code 39 = .ok (.iadd, 1) := by decide +kernel
theorem d_PM_weightOf_40 : decode prog_1_method_35_code 40 = .ok (.istore_n 2, 1) := by decide +kernel
theorem d_PM_weightOf_41 : decode prog_1_method_35_code 41 = .ok (.iinc 3 1, 3) := by decide +kernel
theorem d_PM_weightOf_44 : decode prog_1_method_35_code 44 = .ok (.goto (-40), 3) := by decide +kernel
theorem d_PM_weightOf_47 : decode prog_1_method_35_code 47 = .ok (.iload_n 2, 1) := by decide +kernel
theorem d_PM_weightOf_48 : decode prog_1_method_35_code 48 = .ok (.ireturn, 1) := by decide +kernel
theorem d_PM_fits_0 : decode prog_1_method_36_code 0 = .ok (.aload_n 0, 1) := by decide +kernel
theorem d_PM_fits_1 : decode prog_1_method_36_code 1 = .ok (.getfield 19, 3) := by decide +kernel
theorem d_PM_fits_4 : decode prog_1_method_36_code 4 = .ok (.getfield 242, 3) := by decide +kernel
theorem d_PM_fits_7 : decode prog_1_method_36_code 7 = .ok (.iload_n 1, 1) := by decide +kernel
theorem d_PM_fits_8 : decode prog_1_method_36_code 8 = .ok (.iaload, 1) := by decide +kernel
theorem d_PM_fits_9 : decode prog_1_method_36_code 9 = .ok (.istore_n 3, 1) := by decide +kernel
theorem d_PM_fits_10 : decode prog_1_method_36_code 10 = .ok (.aload_n 0, 1) := by decide +kernel
theorem d_PM_fits_11 : decode prog_1_method_36_code 11 = .ok (.getfield 19, 3) := by decide +kernel
theorem d_PM_fits_14 : decode prog_1_method_36_code 14 = .ok (.getfield 245, 3) := by decide +kernel
theorem d_PM_fits_17 : decode prog_1_method_36_code 17 = .ok (.iload_n 1, 1) := by decide +kernel
theorem d_PM_fits_18 : decode prog_1_method_36_code 18 = .ok (.iaload, 1) := by decide +kernel
theorem d_PM_fits_19 : decode prog_1_method_36_code 19 = .ok (.istore 4, 2) := by decide +kernel
theorem d_PM_fits_21 : decode prog_1_method_36_code 21 = .ok (.aload_n 0, 1) := by decide +kernel
theorem d_PM_fits_22 : decode prog_1_method_36_code 22 = .ok (.getfield 19, 3) := by decide +kernel
theorem d_PM_fits_25 : decode prog_1_method_36_code 25 = .ok (.getfield 248, 3) := by decide +kernel
theorem d_PM_fits_28 : decode prog_1_method_36_code 28 = .ok (.iload_n 1, 1) := by decide +kernel
theorem d_PM_fits_29 : decode prog_1_method_36_code 29 = .ok (.iaload, 1) := by decide +kernel
theorem d_PM_fits_30 : decode prog_1_method_36_code 30 = .ok (.istore 5, 2) := by decide +kernel
theorem d_PM_fits_32 : decode prog_1_method_36_code 32 = .ok (.aload_n 0, 1) := by decide +kernel
theorem d_PM_fits_33 : decode prog_1_method_36_code 33 = .ok (.getfield 33, 3) := by decide +kernel
theorem d_PM_fits_36 : decode prog_1_method_36_code 36 = .ok (.iload_n 2, 1) := by decide +kernel
theorem d_PM_fits_37 : decode prog_1_method_36_code 37 = .ok (.iload 4, 2) := by decide +kernel
theorem d_PM_fits_39 : decode prog_1_method_36_code 39 = .ok (.iload_n 3, 1) := by decide +kernel
theorem d_PM_fits_40 : decode prog_1_method_36_code 40 = .ok (.invokevirtual 251, 3) := by decide +kernel
theorem d_PM_fits_43 : decode prog_1_method_36_code 43 = .ok (.ifCond .ne 32, 3) := by decide +kernel
theorem d_PM_fits_46 : decode prog_1_method_36_code 46 = .ok (.aload_n 0, 1) := by decide +kernel
theorem d_PM_fits_47 : decode prog_1_method_36_code 47 = .ok (.getfield 33, 3) := by decide +kernel
theorem d_PM_fits_50 : decode prog_1_method_36_code 50 = .ok (.iload_n 2, 1) := by decide +kernel
theorem d_PM_fits_51 : decode prog_1_method_36_code 51 = .ok (.iload 5, 2) := by decide +kernel
theorem d_PM_fits_53 : decode prog_1_method_36_code 53 = .ok (.iload_n 3, 1) := by decide +kernel
theorem d_PM_fits_54 : decode prog_1_method_36_code 54 = .ok (.invokevirtual 251, 3) := by decide +kernel
theorem d_PM_fits_57 : decode prog_1_method_36_code 57 = .ok (.ifCond .ne 18, 3) := by decide +kernel
theorem d_PM_fits_60 : decode prog_1_method_36_code 60 = .ok (.aload_n 0, 1) := by decide +kernel
theorem d_PM_fits_61 : decode prog_1_method_36_code 61 = .ok (.getfield 33, 3) := by decide +kernel
theorem d_PM_fits_64 : decode prog_1_method_36_code 64 = .ok (.iload_n 2, 1) := by decide +kernel
theorem d_PM_fits_65 : decode prog_1_method_36_code 65 = .ok (.iload 5, 2) := by decide +kernel
theorem d_PM_fits_67 : decode prog_1_method_36_code 67 = .ok (.iload 4, 2) := by decide +kernel
theorem d_PM_fits_69 : decode prog_1_method_36_code 69 = .ok (.invokevirtual 251, 3) := by decide +kernel
theorem d_PM_fits_72 : decode prog_1_method_36_code 72 = .ok (.ifCond .eq 7, 3) := by decide +kernel
theorem d_PM_fits_75 : decode prog_1_method_36_code 75 = .ok (.iconst 1, 1) := by decide +kernel
theorem d_PM_fits_76 : decode prog_1_method_36_code 76 = .ok (.goto 4, 3) := by decide +kernel
theorem d_PM_fits_79 : decode prog_1_method_36_code 79 = .ok (.iconst 0, 1) := by decide +kernel
theorem d_PM_fits_80 : decode prog_1_method_36_code 80 = .ok (.ireturn, 1) := by decide +kernel
theorem d_PM_fittingDoors_0 : decode prog_1_method_37_code 0 = .ok (.lconst 0, 1) := by decide +kernel
theorem d_PM_fittingDoors_1 : decode prog_1_method_37_code 1 = .ok (.lstore_n 2, 1) := by decide +kernel
theorem d_PM_fittingDoors_2 : decode prog_1_method_37_code 2 = .ok (.iconst 0, 1) := by decide +kernel
theorem d_PM_fittingDoors_3 : decode prog_1_method_37_code 3 = .ok (.istore 4, 2) := by decide +kernel
theorem d_PM_fittingDoors_5 : decode prog_1_method_37_code 5 = .ok (.iload 4, 2) := by decide +kernel
theorem d_PM_fittingDoors_7 : decode prog_1_method_37_code 7 = .ok (.aload_n 0, 1) := by decide +kernel
theorem d_PM_fittingDoors_8 : decode prog_1_method_37_code 8 = .ok (.getfield 33, 3) := by decide +kernel
theorem d_PM_fittingDoors_11 : decode prog_1_method_37_code 11 = .ok (.getfield 151, 3) := by decide +kernel
theorem d_PM_fittingDoors_14 : decode prog_1_method_37_code 14 = .ok (.if_icmp .ge 26, 3) := by decide +kernel
theorem d_PM_fittingDoors_17 : decode prog_1_method_37_code 17 = .ok (.aload_n 0, 1) := by decide +kernel
theorem d_PM_fittingDoors_18 : decode prog_1_method_37_code 18 = .ok (.iload_n 1, 1) := by decide +kernel
theorem d_PM_fittingDoors_19 : decode prog_1_method_37_code 19 = .ok (.iload 4, 2) := by decide +kernel
theorem d_PM_fittingDoors_21 : decode prog_1_method_37_code 21 = .ok (.invokevirtual 153, 3) := by decide +kernel
theorem d_PM_fittingDoors_24 : decode prog_1_method_37_code 24 = .ok (.ifCond .eq 10, 3) := by decide +kernel
theorem d_PM_fittingDoors_27 : decode prog_1_method_37_code 27 = .ok (.lload_n 2, 1) := by decide +kernel
theorem d_PM_fittingDoors_28 : decode prog_1_method_37_code 28 = .ok (.lconst 1, 1) := by decide +kernel
theorem d_PM_fittingDoors_29 : decode prog_1_method_37_code 29 = .ok (.iload 4, 2) := by decide +kernel
theorem d_PM_fittingDoors_31 : decode prog_1_method_37_code 31 = .ok (.lshl, 1) := by decide +kernel
theorem d_PM_fittingDoors_32 : decode prog_1_method_37_code 32 = .ok (.lor, 1) := by decide +kernel
theorem d_PM_fittingDoors_33 : decode prog_1_method_37_code 33 = .ok (.lstore_n 2, 1) := by decide +kernel
theorem d_PM_fittingDoors_34 : decode prog_1_method_37_code 34 = .ok (.iinc 4 1, 3) := by decide +kernel
theorem d_PM_fittingDoors_37 : decode prog_1_method_37_code 37 = .ok (.goto (-32), 3) := by decide +kernel
theorem d_PM_fittingDoors_40 : decode prog_1_method_37_code 40 = .ok (.lload_n 2, 1) := by decide +kernel
theorem d_PM_fittingDoors_41 : decode prog_1_method_37_code 41 = .ok (.lreturn, 1) := by decide +kernel
theorem d_PM_doorsBetween_0 : decode prog_1_method_38_code 0 = .ok (.iconst 1, 1) := by decide +kernel
theorem d_PM_doorsBetween_1 : decode prog_1_method_38_code 1 = .ok (.iload_n 1, 1) := by decide +kernel
theorem d_PM_doorsBetween_2 : decode prog_1_method_38_code 2 = .ok (.ishl, 1) := by decide +kernel
theorem d_PM_doorsBetween_3 : decode prog_1_method_38_code 3 = .ok (.istore 5, 2) := by decide +kernel
theorem d_PM_doorsBetween_5 : decode prog_1_method_38_code 5 = .ok (.iconst 0, 1) := by decide +kernel
theorem d_PM_doorsBetween_6 : decode prog_1_method_38_code 6 = .ok (.istore 6, 2) := by decide +kernel
theorem d_PM_doorsBetween_8 : decode prog_1_method_38_code 8 = .ok (.iload 6, 2) := by decide +kernel
theorem d_PM_doorsBetween_10 : decode prog_1_method_38_code 10 = .ok (.bipush 24, 2) := by decide +kernel
theorem d_PM_doorsBetween_12 : decode prog_1_method_38_code 12 = .ok (.if_icmp .ge 47, 3) := by decide +kernel
theorem d_PM_doorsBetween_15 : decode prog_1_method_38_code 15 = .ok (.iload 5, 2) := by decide +kernel
theorem d_PM_doorsBetween_17 : decode prog_1_method_38_code 17 = .ok (.iload_n 2, 1) := by decide +kernel
theorem d_PM_doorsBetween_18 : decode prog_1_method_38_code 18 = .ok (.iushr, 1) := by decide +kernel
theorem d_PM_doorsBetween_19 : decode prog_1_method_38_code 19 = .ok (.iconst 1, 1) := by decide +kernel
theorem d_PM_doorsBetween_20 : decode prog_1_method_38_code 20 = .ok (.iand, 1) := by decide +kernel
theorem d_PM_doorsBetween_21 : decode prog_1_method_38_code 21 = .ok (.iconst 1, 1) := by decide +kernel
theorem d_PM_doorsBetween_22 : decode prog_1_method_38_code 22 = .ok (.if_icmp .ne 6, 3) := by decide +kernel
theorem d_PM_doorsBetween_25 : decode prog_1_method_38_code 25 = .ok (.iload 6, 2) := by decide +kernel
theorem d_PM_doorsBetween_27 : decode prog_1_method_38_code 27 = .ok (.ireturn, 1) := by decide +kernel
theorem d_PM_doorsBetween_28 : decode prog_1_method_38_code 28 = .ok (.aload_n 0, 1) := by decide +kernel
theorem d_PM_doorsBetween_29 : decode prog_1_method_38_code 29 = .ok (.getfield 33, 3) := by decide +kernel
theorem d_PM_doorsBetween_32 : decode prog_1_method_38_code 32 = .ok (.iload 5, 2) := by decide +kernel
theorem d_PM_doorsBetween_34 : decode prog_1_method_38_code 34 = .ok (.lload_n 3, 1) := by decide +kernel
theorem d_PM_doorsBetween_35 : decode prog_1_method_38_code 35 = .ok (.invokevirtual 254, 3) := by decide +kernel
theorem d_PM_doorsBetween_38 : decode prog_1_method_38_code 38 = .ok (.istore 7, 2) := by decide +kernel
theorem d_PM_doorsBetween_40 : decode prog_1_method_38_code 40 = .ok (.iload 7, 2) := by decide +kernel
theorem d_PM_doorsBetween_42 : decode prog_1_method_38_code 42 = .ok (.iload 5, 2) := by decide +kernel
theorem d_PM_doorsBetween_44 : decode prog_1_method_38_code 44 = .ok (.if_icmp .ne 5, 3) := by decide +kernel
theorem d_PM_doorsBetween_47 : decode prog_1_method_38_code 47 = .ok (.iconst (-1), 1) := by decide +kernel
theorem d_PM_doorsBetween_48 : decode prog_1_method_38_code 48 = .ok (.ireturn, 1) := by decide +kernel
theorem d_PM_doorsBetween_49 : decode prog_1_method_38_code 49 = .ok (.iload 7, 2) := by decide +kernel
theorem d_PM_doorsBetween_51 : decode prog_1_method_38_code 51 = .ok (.istore 5, 2) := by decide +kernel
theorem d_PM_doorsBetween_53 : decode prog_1_method_38_code 53 = .ok (.iinc 6 1, 3) := by decide +kernel
theorem d_PM_doorsBetween_56 : decode prog_1_method_38_code 56 = .ok (.goto (-48), 3) := by decide +kernel
theorem d_PM_doorsBetween_59 : decode prog_1_method_38_code 59 = .ok (.iconst (-1), 1) := by decide +kernel
theorem d_PM_doorsBetween_60 : decode prog_1_method_38_code 60 = .ok (.ireturn, 1) := by decide +kernel
theorem d_Places_init_0 : decode prog_3_method_1_code 0 = .ok (.aload_n 0, 1) := by decide +kernel
theorem d_Places_init_1 : decode prog_3_method_1_code 1 = .ok (.invokespecial 3, 3) := by decide +kernel
theorem d_Places_init_4 : decode prog_3_method_1_code 4 = .ok (.aload_n 0, 1) := by decide +kernel
theorem d_Places_init_5 : decode prog_3_method_1_code 5 = .ok (.bipush 24, 2) := by decide +kernel
theorem d_Places_init_7 : decode prog_3_method_1_code 7 = .ok (.newarray .int, 2) := by decide +kernel
theorem d_Places_init_9 : decode prog_3_method_1_code 9 = .ok (.putfield 9, 3) := by decide +kernel
theorem d_Places_init_12 : decode prog_3_method_1_code 12 = .ok (.aload_n 0, 1) := by decide +kernel
theorem d_Places_init_13 : decode prog_3_method_1_code 13 = .ok (.bipush 24, 2) := by decide +kernel
theorem d_Places_init_15 : decode prog_3_method_1_code 15 = .ok (.newarray .int, 2) := by decide +kernel
theorem d_Places_init_17 : decode prog_3_method_1_code 17 = .ok (.putfield 15, 3) := by decide +kernel
theorem d_Places_init_20 : decode prog_3_method_1_code 20 = .ok (.aload_n 0, 1) := by decide +kernel
theorem d_Places_init_21 : decode prog_3_method_1_code 21 = .ok (.iconst 0, 1) := by decide +kernel
theorem d_Places_init_22 : decode prog_3_method_1_code 22 = .ok (.putfield 18, 3) := by decide +kernel
theorem d_Places_init_25 : decode prog_3_method_1_code 25 = .ok (.return_, 1) := by decide +kernel
theorem d_Places_add_0 : decode prog_3_method_2_code 0 = .ok (.aload_n 0, 1) := by decide +kernel
theorem d_Places_add_1 : decode prog_3_method_2_code 1 = .ok (.getfield 18, 3) := by decide +kernel
theorem d_Places_add_4 : decode prog_3_method_2_code 4 = .ok (.istore_n 3, 1) := by decide +kernel
theorem d_Places_add_5 : decode prog_3_method_2_code 5 = .ok (.aload_n 0, 1) := by decide +kernel
theorem d_Places_add_6 : decode prog_3_method_2_code 6 = .ok (.getfield 9, 3) := by decide +kernel
theorem d_Places_add_9 : decode prog_3_method_2_code 9 = .ok (.iload_n 3, 1) := by decide +kernel
theorem d_Places_add_10 : decode prog_3_method_2_code 10 = .ok (.iload_n 2, 1) := by decide +kernel
theorem d_Places_add_11 : decode prog_3_method_2_code 11 = .ok (.iastore, 1) := by decide +kernel
theorem d_Places_add_12 : decode prog_3_method_2_code 12 = .ok (.aload_n 0, 1) := by decide +kernel
theorem d_Places_add_13 : decode prog_3_method_2_code 13 = .ok (.getfield 15, 3) := by decide +kernel
theorem d_Places_add_16 : decode prog_3_method_2_code 16 = .ok (.iload_n 3, 1) := by decide +kernel
theorem d_Places_add_17 : decode prog_3_method_2_code 17 = .ok (.aload_n 0, 1) := by decide +kernel
theorem d_Places_add_18 : decode prog_3_method_2_code 18 = .ok (.iload_n 1, 1) := by decide +kernel
theorem d_Places_add_19 : decode prog_3_method_2_code 19 = .ok (.invokevirtual 22, 3) := by decide +kernel
theorem d_Places_add_22 : decode prog_3_method_2_code 22 = .ok (.iconst 1, 1) := by decide +kernel
theorem d_Places_add_23 : decode prog_3_method_2_code 23 = .ok (.iload_n 3, 1) := by decide +kernel
theorem d_Places_add_24 : decode prog_3_method_2_code 24 = .ok (.ishl, 1) := by decide +kernel
theorem d_Places_add_25 : decode prog_3_method_2_code 25 = .ok (.ior, 1) := by decide +kernel
theorem d_Places_add_26 : decode prog_3_method_2_code 26 = .ok (.iastore, 1) := by decide +kernel
theorem d_Places_add_27 : decode prog_3_method_2_code 27 = .ok (.aload_n 0, 1) := by decide +kernel
theorem d_Places_add_28 : decode prog_3_method_2_code 28 = .ok (.iload_n 3, 1) := by decide +kernel
theorem d_Places_add_29 : decode prog_3_method_2_code 29 = .ok (.iconst 1, 1) := by decide +kernel
theorem d_Places_add_30 : decode prog_3_method_2_code 30 = .ok (.iadd, 1) := by decide +kernel
theorem d_Places_add_31 : decode prog_3_method_2_code 31 = .ok (.putfield 18, 3) := by decide +kernel
theorem d_Places_add_34 : decode prog_3_method_2_code 34 = .ok (.iload_n 3, 1) := by decide +kernel
theorem d_Places_add_35 : decode prog_3_method_2_code 35 = .ok (.ireturn, 1) := by decide +kernel
theorem d_Places_around_0 : decode prog_3_method_3_code 0 = .ok (.iload_n 1, 1) := by decide +kernel
theorem d_Places_around_1 : decode prog_3_method_3_code 1 = .ok (.ifCond .lt 11, 3) := by decide +kernel
theorem d_Places_around_4 : decode prog_3_method_3_code 4 = .ok (.iload_n 1, 1) := by decide +kernel
theorem d_Places_around_5 : decode prog_3_method_3_code 5 = .ok (.aload_n 0, 1) := by decide +kernel
theorem d_Places_around_6 : decode prog_3_method_3_code 6 = .ok (.getfield 18, 3) := by decide +kernel
theorem d_Places_around_9 : decode prog_3_method_3_code 9 = .ok (.if_icmp .lt 7, 3) := by decide +kernel
theorem d_Places_around_12 : decode prog_3_method_3_code 12 = .ok (.iconst 0, 1) := by decide +kernel
theorem d_Places_around_13 : decode prog_3_method_3_code 13 = .ok (.goto 9, 3) := by decide +kernel
theorem d_Places_around_16 : decode prog_3_method_3_code 16 = .ok (.aload_n 0, 1) := by decide +kernel
theorem d_Places_around_17 : decode prog_3_method_3_code 17 = .ok (.getfield 15, 3) := by decide +kernel
theorem d_Places_around_20 : decode prog_3_method_3_code 20 = .ok (.iload_n 1, 1) := by decide +kernel
theorem d_Places_around_21 : decode prog_3_method_3_code 21 = .ok (.iaload, 1) := by decide +kernel
theorem d_Places_around_22 : decode prog_3_method_3_code 22 = .ok (.ireturn, 1) := by decide +kernel
theorem d_Places_liesIn_0 : decode prog_3_method_4_code 0 = .ok (.aload_n 0, 1) := by decide +kernel
theorem d_Places_liesIn_1 : decode prog_3_method_4_code 1 = .ok (.iload_n 1, 1) := by decide +kernel
theorem d_Places_liesIn_2 : decode prog_3_method_4_code 2 = .ok (.invokevirtual 22, 3) := by decide +kernel
theorem d_Places_liesIn_5 : decode prog_3_method_4_code 5 = .ok (.iload_n 2, 1) := by decide +kernel
theorem d_Places_liesIn_6 : decode prog_3_method_4_code 6 = .ok (.iushr, 1) := by decide +kernel
theorem d_Places_liesIn_7 : decode prog_3_method_4_code 7 = .ok (.iconst 1, 1) := by decide +kernel
theorem d_Places_liesIn_8 : decode prog_3_method_4_code 8 = .ok (.iand, 1) := by decide +kernel
theorem d_Places_liesIn_9 : decode prog_3_method_4_code 9 = .ok (.iconst 1, 1) := by decide +kernel
theorem d_Places_liesIn_10 : decode prog_3_method_4_code 10 = .ok (.if_icmp .ne 7, 3) := by decide +kernel
theorem d_Places_liesIn_13 : decode prog_3_method_4_code 13 = .ok (.iconst 1, 1) := by decide +kernel
theorem d_Places_liesIn_14 : decode prog_3_method_4_code 14 = .ok (.goto 4, 3) := by decide +kernel
theorem d_Places_liesIn_17 : decode prog_3_method_4_code 17 = .ok (.iconst 0, 1) := by decide +kernel
theorem d_Places_liesIn_18 : decode prog_3_method_4_code 18 = .ok (.ireturn, 1) := by decide +kernel
theorem d_Things_init_0 : decode prog_7_method_1_code 0 = .ok (.aload_n 0, 1) := by decide +kernel
theorem d_Things_init_1 : decode prog_7_method_1_code 1 = .ok (.invokespecial 3, 3) := by decide +kernel
theorem d_Things_init_4 : decode prog_7_method_1_code 4 = .ok (.aload_n 0, 1) := by decide +kernel
theorem d_Things_init_5 : decode prog_7_method_1_code 5 = .ok (.bipush 20, 2) := by decide +kernel
theorem d_Things_init_7 : decode prog_7_method_1_code 7 = .ok (.newarray .int, 2) := by decide +kernel
theorem d_Things_init_9 : decode prog_7_method_1_code 9 = .ok (.putfield 9, 3) := by decide +kernel
theorem d_Things_init_12 : decode prog_7_method_1_code 12 = .ok (.aload_n 0, 1) := by decide +kernel
theorem d_Things_init_13 : decode prog_7_method_1_code 13 = .ok (.bipush 20, 2) := by decide +kernel
theorem d_Things_init_15 : decode prog_7_method_1_code 15 = .ok (.newarray .int, 2) := by decide +kernel
theorem d_Things_init_17 : decode prog_7_method_1_code 17 = .ok (.putfield 15, 3) := by decide +kernel
theorem d_Things_init_20 : decode prog_7_method_1_code 20 = .ok (.aload_n 0, 1) := by decide +kernel
theorem d_Things_init_21 : decode prog_7_method_1_code 21 = .ok (.bipush 20, 2) := by decide +kernel
theorem d_Things_init_23 : decode prog_7_method_1_code 23 = .ok (.newarray .int, 2) := by decide +kernel
theorem d_Things_init_25 : decode prog_7_method_1_code 25 = .ok (.putfield 18, 3) := by decide +kernel
theorem d_Things_init_28 : decode prog_7_method_1_code 28 = .ok (.aload_n 0, 1) := by decide +kernel
theorem d_Things_init_29 : decode prog_7_method_1_code 29 = .ok (.bipush 20, 2) := by decide +kernel
theorem d_Things_init_31 : decode prog_7_method_1_code 31 = .ok (.newarray .int, 2) := by decide +kernel
theorem d_Things_init_33 : decode prog_7_method_1_code 33 = .ok (.putfield 21, 3) := by decide +kernel
theorem d_Things_init_36 : decode prog_7_method_1_code 36 = .ok (.aload_n 0, 1) := by decide +kernel
theorem d_Things_init_37 : decode prog_7_method_1_code 37 = .ok (.bipush 20, 2) := by decide +kernel
theorem d_Things_init_39 : decode prog_7_method_1_code 39 = .ok (.newarray .int, 2) := by decide +kernel
theorem d_Things_init_41 : decode prog_7_method_1_code 41 = .ok (.putfield 24, 3) := by decide +kernel
theorem d_Things_init_44 : decode prog_7_method_1_code 44 = .ok (.aload_n 0, 1) := by decide +kernel
theorem d_Things_init_45 : decode prog_7_method_1_code 45 = .ok (.bipush 20, 2) := by decide +kernel
theorem d_Things_init_47 : decode prog_7_method_1_code 47 = .ok (.newarray .boolean, 2) := by decide +kernel
theorem d_Things_init_49 : decode prog_7_method_1_code 49 = .ok (.putfield 27, 3) := by decide +kernel
theorem d_Things_init_52 : decode prog_7_method_1_code 52 = .ok (.aload_n 0, 1) := by decide +kernel
theorem d_Things_init_53 : decode prog_7_method_1_code 53 = .ok (.iconst 0, 1) := by decide +kernel
theorem d_Things_init_54 : decode prog_7_method_1_code 54 = .ok (.putfield 31, 3) := by decide +kernel
theorem d_Things_init_57 : decode prog_7_method_1_code 57 = .ok (.return_, 1) := by decide +kernel
theorem d_Things_add_0 : decode prog_7_method_2_code 0 = .ok (.aload_n 0, 1) := by decide +kernel
theorem d_Things_add_1 : decode prog_7_method_2_code 1 = .ok (.getfield 31, 3) := by decide +kernel
theorem d_Things_add_4 : decode prog_7_method_2_code 4 = .ok (.istore 5, 2) := by decide +kernel
theorem d_Things_add_6 : decode prog_7_method_2_code 6 = .ok (.aload_n 0, 1) := by decide +kernel
theorem d_Things_add_7 : decode prog_7_method_2_code 7 = .ok (.getfield 9, 3) := by decide +kernel
theorem d_Things_add_10 : decode prog_7_method_2_code 10 = .ok (.iload 5, 2) := by decide +kernel
theorem d_Things_add_12 : decode prog_7_method_2_code 12 = .ok (.iload_n 1, 1) := by decide +kernel
theorem d_Things_add_13 : decode prog_7_method_2_code 13 = .ok (.iload_n 2, 1) := by decide +kernel
theorem d_Things_add_14 : decode prog_7_method_2_code 14 = .ok (.iload_n 3, 1) := by decide +kernel
theorem d_Things_add_15 : decode prog_7_method_2_code 15 = .ok (.invokestatic 35, 3) := by decide +kernel
theorem d_Things_add_18 : decode prog_7_method_2_code 18 = .ok (.invokestatic 35, 3) := by decide +kernel
theorem d_Things_add_21 : decode prog_7_method_2_code 21 = .ok (.iastore, 1) := by decide +kernel
theorem d_Things_add_22 : decode prog_7_method_2_code 22 = .ok (.aload_n 0, 1) := by decide +kernel
theorem d_Things_add_23 : decode prog_7_method_2_code 23 = .ok (.getfield 18, 3) := by decide +kernel
theorem d_Things_add_26 : decode prog_7_method_2_code 26 = .ok (.iload 5, 2) := by decide +kernel
theorem d_Things_add_28 : decode prog_7_method_2_code 28 = .ok (.iload_n 1, 1) := by decide +kernel
theorem d_Things_add_29 : decode prog_7_method_2_code 29 = .ok (.iload_n 2, 1) := by decide +kernel
theorem d_Things_add_30 : decode prog_7_method_2_code 30 = .ok (.iload_n 3, 1) := by decide +kernel
theorem d_Things_add_31 : decode prog_7_method_2_code 31 = .ok (.invokestatic 41, 3) := by decide +kernel
theorem d_Things_add_34 : decode prog_7_method_2_code 34 = .ok (.invokestatic 41, 3) := by decide +kernel
theorem d_Things_add_37 : decode prog_7_method_2_code 37 = .ok (.iastore, 1) := by decide +kernel
theorem d_Things_add_38 : decode prog_7_method_2_code 38 = .ok (.aload_n 0, 1) := by decide +kernel
theorem d_Things_add_39 : decode prog_7_method_2_code 39 = .ok (.getfield 15, 3) := by decide +kernel
theorem d_Things_add_42 : decode prog_7_method_2_code 42 = .ok (.iload 5, 2) := by decide +kernel
theorem d_Things_add_44 : decode prog_7_method_2_code 44 = .ok (.iload_n 1, 1) := by decide +kernel
theorem d_Things_add_45 : decode prog_7_method_2_code 45 = .ok (.iload_n 2, 1) := by decide +kernel
theorem d_Things_add_46 : decode prog_7_method_2_code 46 = .ok (.iadd, 1) := by decide +kernel
theorem d_Things_add_47 : decode prog_7_method_2_code 47 = .ok (.iload_n 3, 1) := by decide +kernel
theorem d_Things_add_48 : decode prog_7_method_2_code 48 = .ok (.iadd, 1) := by decide +kernel
theorem d_Things_add_49 : decode prog_7_method_2_code 49 = .ok (.aload_n 0, 1) := by decide +kernel
theorem d_Things_add_50 : decode prog_7_method_2_code 50 = .ok (.getfield 9, 3) := by decide +kernel
theorem d_Things_add_53 : decode prog_7_method_2_code 53 = .ok (.iload 5, 2) := by decide +kernel
theorem d_Things_add_55 : decode prog_7_method_2_code 55 = .ok (.iaload, 1) := by decide +kernel
theorem d_Things_add_56 : decode prog_7_method_2_code 56 = .ok (.isub, 1) := by decide +kernel
theorem d_Things_add_57 : decode prog_7_method_2_code 57 = .ok (.aload_n 0, 1) := by decide +kernel
theorem d_Things_add_58 : decode prog_7_method_2_code 58 = .ok (.getfield 18, 3) := by decide +kernel
theorem d_Things_add_61 : decode prog_7_method_2_code 61 = .ok (.iload 5, 2) := by decide +kernel
theorem d_Things_add_63 : decode prog_7_method_2_code 63 = .ok (.iaload, 1) := by decide +kernel
theorem d_Things_add_64 : decode prog_7_method_2_code 64 = .ok (.isub, 1) := by decide +kernel
theorem d_Things_add_65 : decode prog_7_method_2_code 65 = .ok (.iastore, 1) := by decide +kernel
theorem d_Things_add_66 : decode prog_7_method_2_code 66 = .ok (.aload_n 0, 1) := by decide +kernel
theorem d_Things_add_67 : decode prog_7_method_2_code 67 = .ok (.getfield 21, 3) := by decide +kernel
theorem d_Things_add_70 : decode prog_7_method_2_code 70 = .ok (.iload 5, 2) := by decide +kernel
theorem d_Things_add_72 : decode prog_7_method_2_code 72 = .ok (.iload 4, 2) := by decide +kernel
theorem d_Things_add_74 : decode prog_7_method_2_code 74 = .ok (.iastore, 1) := by decide +kernel
theorem d_Things_add_75 : decode prog_7_method_2_code 75 = .ok (.aload_n 0, 1) := by decide +kernel
theorem d_Things_add_76 : decode prog_7_method_2_code 76 = .ok (.iload 5, 2) := by decide +kernel
theorem d_Things_add_78 : decode prog_7_method_2_code 78 = .ok (.iconst 1, 1) := by decide +kernel
theorem d_Things_add_79 : decode prog_7_method_2_code 79 = .ok (.iadd, 1) := by decide +kernel
theorem d_Things_add_80 : decode prog_7_method_2_code 80 = .ok (.putfield 31, 3) := by decide +kernel
theorem d_Things_add_83 : decode prog_7_method_2_code 83 = .ok (.iload 5, 2) := by decide +kernel
theorem d_Things_add_85 : decode prog_7_method_2_code 85 = .ok (.ireturn, 1) := by decide +kernel
theorem d_Things_isSmaller_0 : decode prog_7_method_3_code 0 = .ok (.aload_n 0, 1) := by decide +kernel
theorem d_Things_isSmaller_1 : decode prog_7_method_3_code 1 = .ok (.getfield 9, 3) := by decide +kernel
theorem d_Things_isSmaller_4 : decode prog_7_method_3_code 4 = .ok (.iload_n 1, 1) := by decide +kernel
theorem d_Things_isSmaller_5 : decode prog_7_method_3_code 5 = .ok (.iaload, 1) := by decide +kernel
theorem d_Things_isSmaller_6 : decode prog_7_method_3_code 6 = .ok (.aload_n 0, 1) := by decide +kernel
theorem d_Things_isSmaller_7 : decode prog_7_method_3_code 7 = .ok (.getfield 9, 3) := by decide +kernel
theorem d_Things_isSmaller_10 : decode prog_7_method_3_code 10 = .ok (.iload_n 2, 1) := by decide +kernel
theorem d_Things_isSmaller_11 : decode prog_7_method_3_code 11 = .ok (.iaload, 1) := by decide +kernel
theorem d_Things_isSmaller_12 : decode prog_7_method_3_code 12 = .ok (.if_icmp .ge 37, 3) := by decide +kernel
theorem d_Things_isSmaller_15 : decode prog_7_method_3_code 15 = .ok (.aload_n 0, 1) := by decide +kernel
theorem d_Things_isSmaller_16 : decode prog_7_method_3_code 16 = .ok (.getfield 15, 3) := by decide +kernel
theorem d_Things_isSmaller_19 : decode prog_7_method_3_code 19 = .ok (.iload_n 1, 1) := by decide +kernel
theorem d_Things_isSmaller_20 : decode prog_7_method_3_code 20 = .ok (.iaload, 1) := by decide +kernel
theorem d_Things_isSmaller_21 : decode prog_7_method_3_code 21 = .ok (.aload_n 0, 1) := by decide +kernel
theorem d_Things_isSmaller_22 : decode prog_7_method_3_code 22 = .ok (.getfield 15, 3) := by decide +kernel
theorem d_Things_isSmaller_25 : decode prog_7_method_3_code 25 = .ok (.iload_n 2, 1) := by decide +kernel
theorem d_Things_isSmaller_26 : decode prog_7_method_3_code 26 = .ok (.iaload, 1) := by decide +kernel
theorem d_Things_isSmaller_27 : decode prog_7_method_3_code 27 = .ok (.if_icmp .ge 22, 3) := by decide +kernel
theorem d_Things_isSmaller_30 : decode prog_7_method_3_code 30 = .ok (.aload_n 0, 1) := by decide +kernel
theorem d_Things_isSmaller_31 : decode prog_7_method_3_code 31 = .ok (.getfield 18, 3) := by decide +kernel
theorem d_Things_isSmaller_34 : decode prog_7_method_3_code 34 = .ok (.iload_n 1, 1) := by decide +kernel
theorem d_Things_isSmaller_35 : decode prog_7_method_3_code 35 = .ok (.iaload, 1) := by decide +kernel
theorem d_Things_isSmaller_36 : decode prog_7_method_3_code 36 = .ok (.aload_n 0, 1) := by decide +kernel
theorem d_Things_isSmaller_37 : decode prog_7_method_3_code 37 = .ok (.getfield 18, 3) := by decide +kernel
theorem d_Things_isSmaller_40 : decode prog_7_method_3_code 40 = .ok (.iload_n 2, 1) := by decide +kernel
theorem d_Things_isSmaller_41 : decode prog_7_method_3_code 41 = .ok (.iaload, 1) := by decide +kernel
theorem d_Things_isSmaller_42 : decode prog_7_method_3_code 42 = .ok (.if_icmp .ge 7, 3) := by decide +kernel
theorem d_Things_isSmaller_45 : decode prog_7_method_3_code 45 = .ok (.iconst 1, 1) := by decide +kernel
theorem d_Things_isSmaller_46 : decode prog_7_method_3_code 46 = .ok (.goto 4, 3) := by decide +kernel
theorem d_Things_isSmaller_49 : decode prog_7_method_3_code 49 = .ok (.iconst 0, 1) := by decide +kernel
theorem d_Things_isSmaller_50 : decode prog_7_method_3_code 50 = .ok (.ireturn, 1) := by decide +kernel
theorem d_Rows_init_0 : decode prog_6_method_1_code 0 = .ok (.aload_n 0, 1) := by decide +kernel
theorem d_Rows_init_1 : decode prog_6_method_1_code 1 = .ok (.invokespecial 3, 3) := by decide +kernel
theorem d_Rows_init_4 : decode prog_6_method_1_code 4 = .ok (.aload_n 0, 1) := by decide +kernel
theorem d_Rows_init_5 : decode prog_6_method_1_code 5 = .ok (.bipush 20, 2) := by decide +kernel
theorem d_Rows_init_7 : decode prog_6_method_1_code 7 = .ok (.newarray .int, 2) := by decide +kernel
theorem d_Rows_init_9 : decode prog_6_method_1_code 9 = .ok (.putfield 9, 3) := by decide +kernel
theorem d_Rows_init_12 : decode prog_6_method_1_code 12 = .ok (.aload_n 0, 1) := by decide +kernel
theorem d_Rows_init_13 : decode prog_6_method_1_code 13 = .ok (.sipush 800, 3) := by decide +kernel
theorem d_Rows_init_16 : decode prog_6_method_1_code 16 = .ok (.newarray .int, 2) := by decide +kernel
theorem d_Rows_init_18 : decode prog_6_method_1_code 18 = .ok (.putfield 15, 3) := by decide +kernel
theorem d_Rows_init_21 : decode prog_6_method_1_code 21 = .ok (.aload_n 0, 1) := by decide +kernel
theorem d_Rows_init_22 : decode prog_6_method_1_code 22 = .ok (.sipush 800, 3) := by decide +kernel
theorem d_Rows_init_25 : decode prog_6_method_1_code 25 = .ok (.newarray .int, 2) := by decide +kernel
theorem d_Rows_init_27 : decode prog_6_method_1_code 27 = .ok (.putfield 18, 3) := by decide +kernel
theorem d_Rows_init_30 : decode prog_6_method_1_code 30 = .ok (.aload_n 0, 1) := by decide +kernel
theorem d_Rows_init_31 : decode prog_6_method_1_code 31 = .ok (.sipush 800, 3) := by decide +kernel
theorem d_Rows_init_34 : decode prog_6_method_1_code 34 = .ok (.newarray .int, 2) := by decide +kernel
theorem d_Rows_init_36 : decode prog_6_method_1_code 36 = .ok (.putfield 21, 3) := by decide +kernel
theorem d_Rows_init_39 : decode prog_6_method_1_code 39 = .ok (.aload_n 0, 1) := by decide +kernel
theorem d_Rows_init_40 : decode prog_6_method_1_code 40 = .ok (.iconst 0, 1) := by decide +kernel
theorem d_Rows_init_41 : decode prog_6_method_1_code 41 = .ok (.putfield 24, 3) := by decide +kernel
theorem d_Rows_init_44 : decode prog_6_method_1_code 44 = .ok (.return_, 1) := by decide +kernel
theorem d_Rows_index_0 : decode prog_6_method_2_code 0 = .ok (.iload_n 0, 1) := by decide +kernel
theorem d_Rows_index_1 : decode prog_6_method_2_code 1 = .ok (.bipush 40, 2) := by decide +kernel
theorem d_Rows_index_3 : decode prog_6_method_2_code 3 = .ok (.imul, 1) := by decide +kernel
theorem d_Rows_index_4 : decode prog_6_method_2_code 4 = .ok (.iload_n 1, 1) := by decide +kernel
theorem d_Rows_index_5 : decode prog_6_method_2_code 5 = .ok (.iadd, 1) := by decide +kernel
theorem d_Rows_index_6 : decode prog_6_method_2_code 6 = .ok (.ireturn, 1) := by decide +kernel
theorem d_Rows_add_0 : decode prog_6_method_3_code 0 = .ok (.iload_n 1, 1) := by decide +kernel
theorem d_Rows_add_1 : decode prog_6_method_3_code 1 = .ok (.aload_n 0, 1) := by decide +kernel
theorem d_Rows_add_2 : decode prog_6_method_3_code 2 = .ok (.getfield 9, 3) := by decide +kernel
theorem d_Rows_add_5 : decode prog_6_method_3_code 5 = .ok (.iload_n 1, 1) := by decide +kernel
theorem d_Rows_add_6 : decode prog_6_method_3_code 6 = .ok (.iaload, 1) := by decide +kernel
theorem d_Rows_add_7 : decode prog_6_method_3_code 7 = .ok (.invokestatic 28, 3) := by decide +kernel
theorem d_Rows_add_10 : decode prog_6_method_3_code 10 = .ok (.istore 5, 2) := by decide +kernel
theorem d_Rows_add_12 : decode prog_6_method_3_code 12 = .ok (.aload_n 0, 1) := by decide +kernel
theorem d_Rows_add_13 : decode prog_6_method_3_code 13 = .ok (.getfield 15, 3) := by decide +kernel
theorem d_Rows_add_16 : decode prog_6_method_3_code 16 = .ok (.iload 5, 2) := by decide +kernel
theorem d_Rows_add_18 : decode prog_6_method_3_code 18 = .ok (.iload_n 2, 1) := by decide +kernel
theorem d_Rows_add_19 : decode prog_6_method_3_code 19 = .ok (.iastore, 1) := by decide +kernel
theorem d_Rows_add_20 : decode prog_6_method_3_code 20 = .ok (.aload_n 0, 1) := by decide +kernel
theorem d_Rows_add_21 : decode prog_6_method_3_code 21 = .ok (.getfield 18, 3) := by decide +kernel
theorem d_Rows_add_24 : decode prog_6_method_3_code 24 = .ok (.iload 5, 2) := by decide +kernel
theorem d_Rows_add_26 : decode prog_6_method_3_code 26 = .ok (.iload_n 3, 1) := by decide +kernel
theorem d_Rows_add_27 : decode prog_6_method_3_code 27 = .ok (.iastore, 1) := by decide +kernel
theorem d_Rows_add_28 : decode prog_6_method_3_code 28 = .ok (.aload_n 0, 1) := by decide +kernel
theorem d_Rows_add_29 : decode prog_6_method_3_code 29 = .ok (.getfield 21, 3) := by decide +kernel
theorem d_Rows_add_32 : decode prog_6_method_3_code 32 = .ok (.iload 5, 2) := by decide +kernel
theorem d_Rows_add_34 : decode prog_6_method_3_code 34 = .ok (.iload 4, 2) := by decide +kernel
theorem d_Rows_add_36 : decode prog_6_method_3_code 36 = .ok (.iastore, 1) := by decide +kernel
theorem d_Rows_add_37 : decode prog_6_method_3_code 37 = .ok (.aload_n 0, 1) := by decide +kernel
theorem d_Rows_add_38 : decode prog_6_method_3_code 38 = .ok (.getfield 9, 3) := by decide +kernel
theorem d_Rows_add_41 : decode prog_6_method_3_code 41 = .ok (.iload_n 1, 1) := by decide +kernel
theorem d_Rows_add_42 : decode prog_6_method_3_code 42 = .ok (.dup2, 1) := by decide +kernel
theorem d_Rows_add_43 : decode prog_6_method_3_code 43 = .ok (.iaload, 1) := by decide +kernel
theorem d_Rows_add_44 : decode prog_6_method_3_code 44 = .ok (.iconst 1, 1) := by decide +kernel
theorem d_Rows_add_45 : decode prog_6_method_3_code 45 = .ok (.iadd, 1) := by decide +kernel
theorem d_Rows_add_46 : decode prog_6_method_3_code 46 = .ok (.iastore, 1) := by decide +kernel
theorem d_Rows_add_47 : decode prog_6_method_3_code 47 = .ok (.aload_n 0, 1) := by decide +kernel
theorem d_Rows_add_48 : decode prog_6_method_3_code 48 = .ok (.dup, 1) := by decide +kernel
theorem d_Rows_add_49 : decode prog_6_method_3_code 49 = .ok (.getfield 24, 3) := by decide +kernel
theorem d_Rows_add_52 : decode prog_6_method_3_code 52 = .ok (.iconst 1, 1) := by decide +kernel
theorem d_Rows_add_53 : decode prog_6_method_3_code 53 = .ok (.iadd, 1) := by decide +kernel
theorem d_Rows_add_54 : decode prog_6_method_3_code 54 = .ok (.putfield 24, 3) := by decide +kernel
theorem d_Rows_add_57 : decode prog_6_method_3_code 57 = .ok (.return_, 1) := by decide +kernel
theorem d_Rows_dropNewest_0 : decode prog_6_method_4_code 0 = .ok (.aload_n 0, 1) := by decide +kernel
theorem d_Rows_dropNewest_1 : decode prog_6_method_4_code 1 = .ok (.getfield 9, 3) := by decide +kernel
theorem d_Rows_dropNewest_4 : decode prog_6_method_4_code 4 = .ok (.iload_n 1, 1) := by decide +kernel
theorem d_Rows_dropNewest_5 : decode prog_6_method_4_code 5 = .ok (.dup2, 1) := by decide +kernel
theorem d_Rows_dropNewest_6 : decode prog_6_method_4_code 6 = .ok (.iaload, 1) := by decide +kernel
theorem d_Rows_dropNewest_7 : decode prog_6_method_4_code 7 = .ok (.iconst 1, 1) := by decide +kernel
theorem d_Rows_dropNewest_8 : decode prog_6_method_4_code 8 = .ok (.isub, 1) := by decide +kernel
theorem d_Rows_dropNewest_9 : decode prog_6_method_4_code 9 = .ok (.iastore, 1) := by decide +kernel
theorem d_Rows_dropNewest_10 : decode prog_6_method_4_code 10 = .ok (.aload_n 0, 1) := by decide +kernel
theorem d_Rows_dropNewest_11 : decode prog_6_method_4_code 11 = .ok (.dup, 1) := by decide +kernel
theorem d_Rows_dropNewest_12 : decode prog_6_method_4_code 12 = .ok (.getfield 24, 3) := by decide +kernel
theorem d_Rows_dropNewest_15 : decode prog_6_method_4_code 15 = .ok (.iconst 1, 1) := by decide +kernel
theorem d_Rows_dropNewest_16 : decode prog_6_method_4_code 16 = .ok (.isub, 1) := by decide +kernel
theorem d_Rows_dropNewest_17 : decode prog_6_method_4_code 17 = .ok (.putfield 24, 3) := by decide +kernel
theorem d_Rows_dropNewest_20 : decode prog_6_method_4_code 20 = .ok (.return_, 1) := by decide +kernel
theorem d_Rows_held_0 : decode prog_6_method_5_code 0 = .ok (.aload_n 0, 1) := by decide +kernel
theorem d_Rows_held_1 : decode prog_6_method_5_code 1 = .ok (.getfield 9, 3) := by decide +kernel
theorem d_Rows_held_4 : decode prog_6_method_5_code 4 = .ok (.iload_n 1, 1) := by decide +kernel
theorem d_Rows_held_5 : decode prog_6_method_5_code 5 = .ok (.iaload, 1) := by decide +kernel
theorem d_Rows_held_6 : decode prog_6_method_5_code 6 = .ok (.iconst 1, 1) := by decide +kernel
theorem d_Rows_held_7 : decode prog_6_method_5_code 7 = .ok (.isub, 1) := by decide +kernel
theorem d_Rows_held_8 : decode prog_6_method_5_code 8 = .ok (.istore_n 3, 1) := by decide +kernel
theorem d_Rows_held_9 : decode prog_6_method_5_code 9 = .ok (.iload_n 3, 1) := by decide +kernel
theorem d_Rows_held_10 : decode prog_6_method_5_code 10 = .ok (.ifCond .lt 30, 3) := by decide +kernel
theorem d_Rows_held_13 : decode prog_6_method_5_code 13 = .ok (.iload_n 1, 1) := by decide +kernel
theorem d_Rows_held_14 : decode prog_6_method_5_code 14 = .ok (.iload_n 3, 1) := by decide +kernel
theorem d_Rows_held_15 : decode prog_6_method_5_code 15 = .ok (.invokestatic 28, 3) := by decide +kernel
theorem d_Rows_held_18 : decode prog_6_method_5_code 18 = .ok (.istore 4, 2) := by decide +kernel
theorem d_Rows_held_20 : decode prog_6_method_5_code 20 = .ok (.aload_n 0, 1) := by decide +kernel
theorem d_Rows_held_21 : decode prog_6_method_5_code 21 = .ok (.getfield 15, 3) := by decide +kernel
theorem d_Rows_held_24 : decode prog_6_method_5_code 24 = .ok (.iload 4, 2) := by decide +kernel
theorem d_Rows_held_26 : decode prog_6_method_5_code 26 = .ok (.iaload, 1) := by decide +kernel
theorem d_Rows_held_27 : decode prog_6_method_5_code 27 = .ok (.iload_n 2, 1) := by decide +kernel
theorem d_Rows_held_28 : decode prog_6_method_5_code 28 = .ok (.if_icmp .gt 6, 3) := by decide +kernel
theorem d_Rows_held_31 : decode prog_6_method_5_code 31 = .ok (.iload 4, 2) := by decide +kernel
theorem d_Rows_held_33 : decode prog_6_method_5_code 33 = .ok (.ireturn, 1) := by decide +kernel
theorem d_Rows_held_34 : decode prog_6_method_5_code 34 = .ok (.iinc 3 (-1), 3) := by decide +kernel
theorem d_Rows_held_37 : decode prog_6_method_5_code 37 = .ok (.goto (-28), 3) := by decide +kernel
theorem d_Rows_held_40 : decode prog_6_method_5_code 40 = .ok (.iconst (-1), 1) := by decide +kernel
theorem d_Rows_held_41 : decode prog_6_method_5_code 41 = .ok (.ireturn, 1) := by decide +kernel
theorem d_Doors_init_0 : decode prog_2_method_1_code 0 = .ok (.aload_n 0, 1) := by decide +kernel
theorem d_Doors_init_1 : decode prog_2_method_1_code 1 = .ok (.invokespecial 3, 3) := by decide +kernel
theorem d_Doors_init_4 : decode prog_2_method_1_code 4 = .ok (.aload_n 0, 1) := by decide +kernel
theorem d_Doors_init_5 : decode prog_2_method_1_code 5 = .ok (.bipush 40, 2) := by decide +kernel
theorem d_Doors_init_7 : decode prog_2_method_1_code 7 = .ok (.newarray .int, 2) := by decide +kernel
theorem d_Doors_init_9 : decode prog_2_method_1_code 9 = .ok (.putfield 9, 3) := by decide +kernel
theorem d_Doors_init_12 : decode prog_2_method_1_code 12 = .ok (.aload_n 0, 1) := by decide +kernel
theorem d_Doors_init_13 : decode prog_2_method_1_code 13 = .ok (.bipush 40, 2) := by decide +kernel
theorem d_Doors_init_15 : decode prog_2_method_1_code 15 = .ok (.newarray .int, 2) := by decide +kernel
theorem d_Doors_init_17 : decode prog_2_method_1_code 17 = .ok (.putfield 15, 3) := by decide +kernel
theorem d_Doors_init_20 : decode prog_2_method_1_code 20 = .ok (.aload_n 0, 1) := by decide +kernel
theorem d_Doors_init_21 : decode prog_2_method_1_code 21 = .ok (.bipush 40, 2) := by decide +kernel
theorem d_Doors_init_23 : decode prog_2_method_1_code 23 = .ok (.newarray .int, 2) := by decide +kernel
theorem d_Doors_init_25 : decode prog_2_method_1_code 25 = .ok (.putfield 18, 3) := by decide +kernel
theorem d_Doors_init_28 : decode prog_2_method_1_code 28 = .ok (.aload_n 0, 1) := by decide +kernel
theorem d_Doors_init_29 : decode prog_2_method_1_code 29 = .ok (.bipush 40, 2) := by decide +kernel
theorem d_Doors_init_31 : decode prog_2_method_1_code 31 = .ok (.newarray .int, 2) := by decide +kernel
theorem d_Doors_init_33 : decode prog_2_method_1_code 33 = .ok (.putfield 21, 3) := by decide +kernel
theorem d_Doors_init_36 : decode prog_2_method_1_code 36 = .ok (.aload_n 0, 1) := by decide +kernel
theorem d_Doors_init_37 : decode prog_2_method_1_code 37 = .ok (.iconst 0, 1) := by decide +kernel
theorem d_Doors_init_38 : decode prog_2_method_1_code 38 = .ok (.putfield 24, 3) := by decide +kernel
theorem d_Doors_init_41 : decode prog_2_method_1_code 41 = .ok (.return_, 1) := by decide +kernel
theorem d_Doors_add_0 : decode prog_2_method_2_code 0 = .ok (.aload_n 0, 1) := by decide +kernel
theorem d_Doors_add_1 : decode prog_2_method_2_code 1 = .ok (.getfield 24, 3) := by decide +kernel
theorem d_Doors_add_4 : decode prog_2_method_2_code 4 = .ok (.istore 5, 2) := by decide +kernel
theorem d_Doors_add_6 : decode prog_2_method_2_code 6 = .ok (.aload_n 0, 1) := by decide +kernel
theorem d_Doors_add_7 : decode prog_2_method_2_code 7 = .ok (.getfield 9, 3) := by decide +kernel
theorem d_Doors_add_10 : decode prog_2_method_2_code 10 = .ok (.iload 5, 2) := by decide +kernel
theorem d_Doors_add_12 : decode prog_2_method_2_code 12 = .ok (.iload_n 1, 1) := by decide +kernel
theorem d_Doors_add_13 : decode prog_2_method_2_code 13 = .ok (.iastore, 1) := by decide +kernel
theorem d_Doors_add_14 : decode prog_2_method_2_code 14 = .ok (.aload_n 0, 1) := by decide +kernel
theorem d_Doors_add_15 : decode prog_2_method_2_code 15 = .ok (.getfield 15, 3) := by decide +kernel
theorem d_Doors_add_18 : decode prog_2_method_2_code 18 = .ok (.iload 5, 2) := by decide +kernel
theorem d_Doors_add_20 : decode prog_2_method_2_code 20 = .ok (.iload_n 2, 1) := by decide +kernel
theorem d_Doors_add_21 : decode prog_2_method_2_code 21 = .ok (.iastore, 1) := by decide +kernel
theorem d_Doors_add_22 : decode prog_2_method_2_code 22 = .ok (.aload_n 0, 1) := by decide +kernel
theorem d_Doors_add_23 : decode prog_2_method_2_code 23 = .ok (.getfield 18, 3) := by decide +kernel
theorem d_Doors_add_26 : decode prog_2_method_2_code 26 = .ok (.iload 5, 2) := by decide +kernel
theorem d_Doors_add_28 : decode prog_2_method_2_code 28 = .ok (.iload_n 3, 1) := by decide +kernel
theorem d_Doors_add_29 : decode prog_2_method_2_code 29 = .ok (.iload 4, 2) := by decide +kernel
theorem d_Doors_add_31 : decode prog_2_method_2_code 31 = .ok (.invokestatic 28, 3) := by decide +kernel
theorem d_Doors_add_34 : decode prog_2_method_2_code 34 = .ok (.iastore, 1) := by decide +kernel
theorem d_Doors_add_35 : decode prog_2_method_2_code 35 = .ok (.aload_n 0, 1) := by decide +kernel
theorem d_Doors_add_36 : decode prog_2_method_2_code 36 = .ok (.getfield 21, 3) := by decide +kernel
theorem d_Doors_add_39 : decode prog_2_method_2_code 39 = .ok (.iload 5, 2) := by decide +kernel
theorem d_Doors_add_41 : decode prog_2_method_2_code 41 = .ok (.iload_n 3, 1) := by decide +kernel
theorem d_Doors_add_42 : decode prog_2_method_2_code 42 = .ok (.iload 4, 2) := by decide +kernel
theorem d_Doors_add_44 : decode prog_2_method_2_code 44 = .ok (.invokestatic 34, 3) := by decide +kernel
theorem d_Doors_add_47 : decode prog_2_method_2_code 47 = .ok (.iastore, 1) := by decide +kernel
theorem d_Doors_add_48 : decode prog_2_method_2_code 48 = .ok (.aload_n 0, 1) := by decide +kernel
theorem d_Doors_add_49 : decode prog_2_method_2_code 49 = .ok (.iload 5, 2) := by decide +kernel
theorem d_Doors_add_51 : decode prog_2_method_2_code 51 = .ok (.iconst 1, 1) := by decide +kernel
theorem d_Doors_add_52 : decode prog_2_method_2_code 52 = .ok (.iadd, 1) := by decide +kernel
theorem d_Doors_add_53 : decode prog_2_method_2_code 53 = .ok (.putfield 24, 3) := by decide +kernel
theorem d_Doors_add_56 : decode prog_2_method_2_code 56 = .ok (.iload 5, 2) := by decide +kernel
theorem d_Doors_add_58 : decode prog_2_method_2_code 58 = .ok (.ireturn, 1) := by decide +kernel
theorem d_Doors_letsThrough_0 : decode prog_2_method_3_code 0 = .ok (.iload_n 3, 1) := by decide +kernel
theorem d_Doors_letsThrough_1 : decode prog_2_method_3_code 1 = .ok (.aload_n 0, 1) := by decide +kernel
theorem d_Doors_letsThrough_2 : decode prog_2_method_3_code 2 = .ok (.getfield 21, 3) := by decide +kernel
theorem d_Doors_letsThrough_5 : decode prog_2_method_3_code 5 = .ok (.iload_n 1, 1) := by decide +kernel
theorem d_Doors_letsThrough_6 : decode prog_2_method_3_code 6 = .ok (.iaload, 1) := by decide +kernel
theorem d_Doors_letsThrough_7 : decode prog_2_method_3_code 7 = .ok (.if_icmp .le 5, 3) := by decide +kernel
theorem d_Doors_letsThrough_10 : decode prog_2_method_3_code 10 = .ok (.iconst 0, 1) := by decide +kernel
theorem d_Doors_letsThrough_11 : decode prog_2_method_3_code 11 = .ok (.ireturn, 1) := by decide +kernel
theorem d_Doors_letsThrough_12 : decode prog_2_method_3_code 12 = .ok (.iload_n 2, 1) := by decide +kernel
theorem d_Doors_letsThrough_13 : decode prog_2_method_3_code 13 = .ok (.aload_n 0, 1) := by decide +kernel
theorem d_Doors_letsThrough_14 : decode prog_2_method_3_code 14 = .ok (.getfield 18, 3) := by decide +kernel
theorem d_Doors_letsThrough_17 : decode prog_2_method_3_code 17 = .ok (.iload_n 1, 1) := by decide +kernel
theorem d_Doors_letsThrough_18 : decode prog_2_method_3_code 18 = .ok (.iaload, 1) := by decide +kernel
theorem d_Doors_letsThrough_19 : decode prog_2_method_3_code 19 = .ok (.if_icmp .le 27, 3) := by decide +kernel
theorem d_Doors_letsThrough_22 : decode prog_2_method_3_code 22 = .ok (.aload_n 0, 1) := by decide +kernel
theorem d_Doors_letsThrough_23 : decode prog_2_method_3_code 23 = .ok (.getfield 18, 3) := by decide +kernel
theorem d_Doors_letsThrough_26 : decode prog_2_method_3_code 26 = .ok (.iload_n 1, 1) := by decide +kernel
theorem d_Doors_letsThrough_27 : decode prog_2_method_3_code 27 = .ok (.iaload, 1) := by decide +kernel
theorem d_Doors_letsThrough_28 : decode prog_2_method_3_code 28 = .ok (.i2l, 1) := by decide +kernel
theorem d_Doors_letsThrough_29 : decode prog_2_method_3_code 29 = .ok (.aload_n 0, 1) := by decide +kernel
theorem d_Doors_letsThrough_30 : decode prog_2_method_3_code 30 = .ok (.getfield 21, 3) := by decide +kernel
theorem d_Doors_letsThrough_33 : decode prog_2_method_3_code 33 = .ok (.iload_n 1, 1) := by decide +kernel
theorem d_Doors_letsThrough_34 : decode prog_2_method_3_code 34 = .ok (.iaload, 1) := by decide +kernel
theorem d_Doors_letsThrough_35 : decode prog_2_method_3_code 35 = .ok (.i2l, 1) := by decide +kernel
theorem d_Doors_letsThrough_36 : decode prog_2_method_3_code 36 = .ok (.iload_n 2, 1) := by decide +kernel
theorem d_Doors_letsThrough_37 : decode prog_2_method_3_code 37 = .ok (.i2l, 1) := by decide +kernel
theorem d_Doors_letsThrough_38 : decode prog_2_method_3_code 38 = .ok (.iload_n 3, 1) := by decide +kernel
theorem d_Doors_letsThrough_39 : decode prog_2_method_3_code 39 = .ok (.i2l, 1) := by decide +kernel
theorem d_Doors_letsThrough_40 : decode prog_2_method_3_code 40 = .ok (.invokestatic 37, 3) := by decide +kernel
theorem d_Doors_letsThrough_43 : decode prog_2_method_3_code 43 = .ok (.ifCond .eq 7, 3) := by decide +kernel
theorem d_Doors_letsThrough_46 : decode prog_2_method_3_code 46 = .ok (.iconst 1, 1) := by decide +kernel
theorem d_Doors_letsThrough_47 : decode prog_2_method_3_code 47 = .ok (.goto 4, 3) := by decide +kernel
theorem d_Doors_letsThrough_50 : decode prog_2_method_3_code 50 = .ok (.iconst 0, 1) := by decide +kernel
theorem d_Doors_letsThrough_51 : decode prog_2_method_3_code 51 = .ok (.ireturn, 1) := by decide +kernel
theorem d_Doors_goesTurned_0 : decode prog_2_method_4_code 0 = .ok (.lload_n 0, 1) := by decide +kernel
theorem d_Doors_goesTurned_1 : decode prog_2_method_4_code 1 = .ok (.lload_n 2, 1) := by decide +kernel
theorem d_Doors_goesTurned_2 : decode prog_2_method_4_code 2 = .ok (.ladd, 1) := by decide +kernel
theorem d_Doors_goesTurned_3 : decode prog_2_method_4_code 3 = .ok (.lload 4, 2) := by decide +kernel
theorem d_Doors_goesTurned_5 : decode prog_2_method_4_code 5 = .ok (.lload 6, 2) := by decide +kernel
theorem d_Doors_goesTurned_7 : decode prog_2_method_4_code 7 = .ok (.lsub, 1) := by decide +kernel
theorem d_Doors_goesTurned_8 : decode prog_2_method_4_code 8 = .ok (.lmul, 1) := by decide +kernel
theorem d_Doors_goesTurned_9 : decode prog_2_method_4_code 9 = .ok (.lstore 8, 2) := by decide +kernel
theorem d_Doors_goesTurned_11 : decode prog_2_method_4_code 11 = .ok (.lload_n 0, 1) := by decide +kernel
theorem d_Doors_goesTurned_12 : decode prog_2_method_4_code 12 = .ok (.lload_n 2, 1) := by decide +kernel
theorem d_Doors_goesTurned_13 : decode prog_2_method_4_code 13 = .ok (.lsub, 1) := by decide +kernel
theorem d_Doors_goesTurned_14 : decode prog_2_method_4_code 14 = .ok (.lload 4, 2) := by decide +kernel
theorem d_Doors_goesTurned_16 : decode prog_2_method_4_code 16 = .ok (.lload 6, 2) := by decide +kernel
theorem d_Doors_goesTurned_18 : decode prog_2_method_4_code 18 = .ok (.ladd, 1) := by decide +kernel
theorem d_Doors_goesTurned_19 : decode prog_2_method_4_code 19 = .ok (.lmul, 1) := by decide +kernel
theorem d_Doors_goesTurned_20 : decode prog_2_method_4_code 20 = .ok (.lstore 10, 2) := by decide +kernel
theorem d_Doors_goesTurned_22 : decode prog_2_method_4_code 22 = .ok (.lload 4, 2) := by decide +kernel
theorem d_Doors_goesTurned_24 : decode prog_2_method_4_code 24 = .ok (.lload 4, 2) := by decide +kernel
theorem d_Doors_goesTurned_26 : decode prog_2_method_4_code 26 = .ok (.lmul, 1) := by decide +kernel
theorem d_Doors_goesTurned_27 : decode prog_2_method_4_code 27 = .ok (.lload 6, 2) := by decide +kernel
theorem d_Doors_goesTurned_29 : decode prog_2_method_4_code 29 = .ok (.lload 6, 2) := by decide +kernel
theorem d_Doors_goesTurned_31 : decode prog_2_method_4_code 31 = .ok (.lmul, 1) := by decide +kernel
theorem d_Doors_goesTurned_32 : decode prog_2_method_4_code 32 = .ok (.lsub, 1) := by decide +kernel
theorem d_Doors_goesTurned_33 : decode prog_2_method_4_code 33 = .ok (.lstore 12, 2) := by decide +kernel
theorem d_Doors_goesTurned_35 : decode prog_2_method_4_code 35 = .ok (.lload 8, 2) := by decide +kernel
theorem d_Doors_goesTurned_37 : decode prog_2_method_4_code 37 = .ok (.lload 8, 2) := by decide +kernel
theorem d_Doors_goesTurned_39 : decode prog_2_method_4_code 39 = .ok (.lmul, 1) := by decide +kernel
theorem d_Doors_goesTurned_40 : decode prog_2_method_4_code 40 = .ok (.lload 10, 2) := by decide +kernel
theorem d_Doors_goesTurned_42 : decode prog_2_method_4_code 42 = .ok (.lload 10, 2) := by decide +kernel
theorem d_Doors_goesTurned_44 : decode prog_2_method_4_code 44 = .ok (.lmul, 1) := by decide +kernel
theorem d_Doors_goesTurned_45 : decode prog_2_method_4_code 45 = .ok (.ladd, 1) := by decide +kernel
theorem d_Doors_goesTurned_46 : decode prog_2_method_4_code 46 = .ok (.ldc2_w 41, 3) := by decide +kernel
theorem d_Doors_goesTurned_49 : decode prog_2_method_4_code 49 = .ok (.lload 12, 2) := by decide +kernel
theorem d_Doors_goesTurned_51 : decode prog_2_method_4_code 51 = .ok (.lmul, 1) := by decide +kernel
theorem d_Doors_goesTurned_52 : decode prog_2_method_4_code 52 = .ok (.lload 12, 2) := by decide +kernel
theorem d_Doors_goesTurned_54 : decode prog_2_method_4_code 54 = .ok (.lmul, 1) := by decide +kernel
theorem d_Doors_goesTurned_55 : decode prog_2_method_4_code 55 = .ok (.lcmp, 1) := by decide +kernel
theorem d_Doors_goesTurned_56 : decode prog_2_method_4_code 56 = .ok (.ifCond .lt 7, 3) := by decide +kernel
theorem d_Doors_goesTurned_59 : decode prog_2_method_4_code 59 = .ok (.iconst 1, 1) := by decide +kernel
theorem d_Doors_goesTurned_60 : decode prog_2_method_4_code 60 = .ok (.goto 4, 3) := by decide +kernel
theorem d_Doors_goesTurned_63 : decode prog_2_method_4_code 63 = .ok (.iconst 0, 1) := by decide +kernel
theorem d_Doors_goesTurned_64 : decode prog_2_method_4_code 64 = .ok (.ireturn, 1) := by decide +kernel
theorem d_Doors_spread_0 : decode prog_2_method_5_code 0 = .ok (.iload_n 1, 1) := by decide +kernel
theorem d_Doors_spread_1 : decode prog_2_method_5_code 1 = .ok (.istore 4, 2) := by decide +kernel
theorem d_Doors_spread_3 : decode prog_2_method_5_code 3 = .ok (.iconst 0, 1) := by decide +kernel
theorem d_Doors_spread_4 : decode prog_2_method_5_code 4 = .ok (.istore 5, 2) := by decide +kernel
theorem d_Doors_spread_6 : decode prog_2_method_5_code 6 = .ok (.iload 5, 2) := by decide +kernel
theorem d_Doors_spread_8 : decode prog_2_method_5_code 8 = .ok (.aload_n 0, 1) := by decide +kernel
theorem d_Doors_spread_9 : decode prog_2_method_5_code 9 = .ok (.getfield 24, 3) := by decide +kernel
theorem d_Doors_spread_12 : decode prog_2_method_5_code 12 = .ok (.if_icmp .ge 55, 3) := by decide +kernel
theorem d_Doors_spread_15 : decode prog_2_method_5_code 15 = .ok (.iconst 1, 1) := by decide +kernel
theorem d_Doors_spread_16 : decode prog_2_method_5_code 16 = .ok (.aload_n 0, 1) := by decide +kernel
theorem d_Doors_spread_17 : decode prog_2_method_5_code 17 = .ok (.getfield 9, 3) := by decide +kernel
theorem d_Doors_spread_20 : decode prog_2_method_5_code 20 = .ok (.iload 5, 2) := by decide +kernel
theorem d_Doors_spread_22 : decode prog_2_method_5_code 22 = .ok (.iaload, 1) := by decide +kernel
theorem d_Doors_spread_23 : decode prog_2_method_5_code 23 = .ok (.ishl, 1) := by decide +kernel
theorem d_Doors_spread_24 : decode prog_2_method_5_code 24 = .ok (.iconst 1, 1) := by decide +kernel
theorem d_Doors_spread_25 : decode prog_2_method_5_code 25 = .ok (.aload_n 0, 1) := by decide +kernel
theorem d_Doors_spread_26 : decode prog_2_method_5_code 26 = .ok (.getfield 15, 3) := by decide +kernel
theorem d_Doors_spread_29 : decode prog_2_method_5_code 29 = .ok (.iload 5, 2) := by decide +kernel
theorem d_Doors_spread_31 : decode prog_2_method_5_code 31 = .ok (.iaload, 1) := by decide +kernel
theorem d_Doors_spread_32 : decode prog_2_method_5_code 32 = .ok (.ishl, 1) := by decide +kernel
theorem d_Doors_spread_33 : decode prog_2_method_5_code 33 = .ok (.ior, 1) := by decide +kernel
theorem d_Doors_spread_34 : decode prog_2_method_5_code 34 = .ok (.istore 6, 2) := by decide +kernel
theorem d_Doors_spread_36 : decode prog_2_method_5_code 36 = .ok (.lload_n 2, 1) := by decide +kernel
theorem d_Doors_spread_37 : decode prog_2_method_5_code 37 = .ok (.iload 5, 2) := by decide +kernel
theorem d_Doors_spread_39 : decode prog_2_method_5_code 39 = .ok (.lushr, 1) := by decide +kernel
theorem d_Doors_spread_40 : decode prog_2_method_5_code 40 = .ok (.lconst 1, 1) := by decide +kernel
theorem d_Doors_spread_41 : decode prog_2_method_5_code 41 = .ok (.land, 1) := by decide +kernel
theorem d_Doors_spread_42 : decode prog_2_method_5_code 42 = .ok (.lconst 1, 1) := by decide +kernel
theorem d_Doors_spread_43 : decode prog_2_method_5_code 43 = .ok (.lcmp, 1) := by decide +kernel
theorem d_Doors_spread_44 : decode prog_2_method_5_code 44 = .ok (.ifCond .ne 17, 3) := by decide +kernel
theorem d_Doors_spread_47 : decode prog_2_method_5_code 47 = .ok (.iload_n 1, 1) := by decide +kernel
theorem d_Doors_spread_48 : decode prog_2_method_5_code 48 = .ok (.iload 6, 2) := by decide +kernel
theorem d_Doors_spread_50 : decode prog_2_method_5_code 50 = .ok (.iand, 1) := by decide +kernel
theorem d_Doors_spread_51 : decode prog_2_method_5_code 51 = .ok (.ifCond .eq 10, 3) := by decide +kernel
theorem d_Doors_spread_54 : decode prog_2_method_5_code 54 = .ok (.iload 4, 2) := by decide +kernel
theorem d_Doors_spread_56 : decode prog_2_method_5_code 56 = .ok (.iload 6, 2) := by decide +kernel
theorem d_Doors_spread_58 : decode prog_2_method_5_code 58 = .ok (.ior, 1) := by decide +kernel
theorem d_Doors_spread_59 : decode prog_2_method_5_code 59 = .ok (.istore 4, 2) := by decide +kernel
theorem d_Doors_spread_61 : decode prog_2_method_5_code 61 = .ok (.iinc 5 1, 3) := by decide +kernel
theorem d_Doors_spread_64 : decode prog_2_method_5_code 64 = .ok (.goto (-58), 3) := by decide +kernel
theorem d_Doors_spread_67 : decode prog_2_method_5_code 67 = .ok (.iload 4, 2) := by decide +kernel
theorem d_Doors_spread_69 : decode prog_2_method_5_code 69 = .ok (.ireturn, 1) := by decide +kernel
theorem d_Plans_init_0 : decode prog_4_method_1_code 0 = .ok (.aload_n 0, 1) := by decide +kernel
theorem d_Plans_init_1 : decode prog_4_method_1_code 1 = .ok (.invokespecial 3, 3) := by decide +kernel
theorem d_Plans_init_4 : decode prog_4_method_1_code 4 = .ok (.aload_n 0, 1) := by decide +kernel
theorem d_Plans_init_5 : decode prog_4_method_1_code 5 = .ok (.bipush 30, 2) := by decide +kernel
theorem d_Plans_init_7 : decode prog_4_method_1_code 7 = .ok (.newarray .int, 2) := by decide +kernel
theorem d_Plans_init_9 : decode prog_4_method_1_code 9 = .ok (.putfield 9, 3) := by decide +kernel
theorem d_Plans_init_12 : decode prog_4_method_1_code 12 = .ok (.aload_n 0, 1) := by decide +kernel
theorem d_Plans_init_13 : decode prog_4_method_1_code 13 = .ok (.bipush 30, 2) := by decide +kernel
theorem d_Plans_init_15 : decode prog_4_method_1_code 15 = .ok (.newarray .int, 2) := by decide +kernel
theorem d_Plans_init_17 : decode prog_4_method_1_code 17 = .ok (.putfield 15, 3) := by decide +kernel
theorem d_Plans_init_20 : decode prog_4_method_1_code 20 = .ok (.aload_n 0, 1) := by decide +kernel
theorem d_Plans_init_21 : decode prog_4_method_1_code 21 = .ok (.bipush 30, 2) := by decide +kernel
theorem d_Plans_init_23 : decode prog_4_method_1_code 23 = .ok (.newarray .int, 2) := by decide +kernel
theorem d_Plans_init_25 : decode prog_4_method_1_code 25 = .ok (.putfield 18, 3) := by decide +kernel
theorem d_Plans_init_28 : decode prog_4_method_1_code 28 = .ok (.aload_n 0, 1) := by decide +kernel
theorem d_Plans_init_29 : decode prog_4_method_1_code 29 = .ok (.bipush 30, 2) := by decide +kernel
theorem d_Plans_init_31 : decode prog_4_method_1_code 31 = .ok (.newarray .int, 2) := by decide +kernel
theorem d_Plans_init_33 : decode prog_4_method_1_code 33 = .ok (.putfield 21, 3) := by decide +kernel
theorem d_Plans_init_36 : decode prog_4_method_1_code 36 = .ok (.aload_n 0, 1) := by decide +kernel
theorem d_Plans_init_37 : decode prog_4_method_1_code 37 = .ok (.iconst 0, 1) := by decide +kernel
theorem d_Plans_init_38 : decode prog_4_method_1_code 38 = .ok (.putfield 24, 3) := by decide +kernel
theorem d_Plans_init_41 : decode prog_4_method_1_code 41 = .ok (.return_, 1) := by decide +kernel
theorem d_Plans_add_0 : decode prog_4_method_2_code 0 = .ok (.aload_n 0, 1) := by decide +kernel
theorem d_Plans_add_1 : decode prog_4_method_2_code 1 = .ok (.getfield 9, 3) := by decide +kernel
theorem d_Plans_add_4 : decode prog_4_method_2_code 4 = .ok (.aload_n 0, 1) := by decide +kernel
theorem d_Plans_add_5 : decode prog_4_method_2_code 5 = .ok (.getfield 24, 3) := by decide +kernel
theorem d_Plans_add_8 : decode prog_4_method_2_code 8 = .ok (.iload_n 1, 1) := by decide +kernel
theorem d_Plans_add_9 : decode prog_4_method_2_code 9 = .ok (.iastore, 1) := by decide +kernel
theorem d_Plans_add_10 : decode prog_4_method_2_code 10 = .ok (.aload_n 0, 1) := by decide +kernel
theorem d_Plans_add_11 : decode prog_4_method_2_code 11 = .ok (.getfield 15, 3) := by decide +kernel
theorem d_Plans_add_14 : decode prog_4_method_2_code 14 = .ok (.aload_n 0, 1) := by decide +kernel
theorem d_Plans_add_15 : decode prog_4_method_2_code 15 = .ok (.getfield 24, 3) := by decide +kernel
theorem d_Plans_add_18 : decode prog_4_method_2_code 18 = .ok (.iload_n 2, 1) := by decide +kernel
theorem d_Plans_add_19 : decode prog_4_method_2_code 19 = .ok (.iastore, 1) := by decide +kernel
theorem d_Plans_add_20 : decode prog_4_method_2_code 20 = .ok (.aload_n 0, 1) := by decide +kernel
theorem d_Plans_add_21 : decode prog_4_method_2_code 21 = .ok (.getfield 18, 3) := by decide +kernel
theorem d_Plans_add_24 : decode prog_4_method_2_code 24 = .ok (.aload_n 0, 1) := by decide +kernel
theorem d_Plans_add_25 : decode prog_4_method_2_code 25 = .ok (.getfield 24, 3) := by decide +kernel
theorem d_Plans_add_28 : decode prog_4_method_2_code 28 = .ok (.iload_n 3, 1) := by decide +kernel
theorem d_Plans_add_29 : decode prog_4_method_2_code 29 = .ok (.iastore, 1) := by decide +kernel
theorem d_Plans_add_30 : decode prog_4_method_2_code 30 = .ok (.aload_n 0, 1) := by decide +kernel
theorem d_Plans_add_31 : decode prog_4_method_2_code 31 = .ok (.getfield 21, 3) := by decide +kernel
theorem d_Plans_add_34 : decode prog_4_method_2_code 34 = .ok (.aload_n 0, 1) := by decide +kernel
theorem d_Plans_add_35 : decode prog_4_method_2_code 35 = .ok (.getfield 24, 3) := by decide +kernel
theorem d_Plans_add_38 : decode prog_4_method_2_code 38 = .ok (.iload 4, 2) := by decide +kernel
theorem d_Plans_add_40 : decode prog_4_method_2_code 40 = .ok (.iastore, 1) := by decide +kernel
theorem d_Plans_add_41 : decode prog_4_method_2_code 41 = .ok (.aload_n 0, 1) := by decide +kernel
theorem d_Plans_add_42 : decode prog_4_method_2_code 42 = .ok (.dup, 1) := by decide +kernel
theorem d_Plans_add_43 : decode prog_4_method_2_code 43 = .ok (.getfield 24, 3) := by decide +kernel
theorem d_Plans_add_46 : decode prog_4_method_2_code 46 = .ok (.iconst 1, 1) := by decide +kernel
theorem d_Plans_add_47 : decode prog_4_method_2_code 47 = .ok (.iadd, 1) := by decide +kernel
theorem d_Plans_add_48 : decode prog_4_method_2_code 48 = .ok (.putfield 24, 3) := by decide +kernel
theorem d_Plans_add_51 : decode prog_4_method_2_code 51 = .ok (.return_, 1) := by decide +kernel
theorem d_Plans_dropNewest_0 : decode prog_4_method_3_code 0 = .ok (.aload_n 0, 1) := by decide +kernel
theorem d_Plans_dropNewest_1 : decode prog_4_method_3_code 1 = .ok (.dup, 1) := by decide +kernel
theorem d_Plans_dropNewest_2 : decode prog_4_method_3_code 2 = .ok (.getfield 24, 3) := by decide +kernel
theorem d_Plans_dropNewest_5 : decode prog_4_method_3_code 5 = .ok (.iconst 1, 1) := by decide +kernel
theorem d_Plans_dropNewest_6 : decode prog_4_method_3_code 6 = .ok (.isub, 1) := by decide +kernel
theorem d_Plans_dropNewest_7 : decode prog_4_method_3_code 7 = .ok (.putfield 24, 3) := by decide +kernel
theorem d_Plans_dropNewest_10 : decode prog_4_method_3_code 10 = .ok (.return_, 1) := by decide +kernel
theorem d_Plans_covers_0 : decode prog_4_method_4_code 0 = .ok (.aload_n 0, 1) := by decide +kernel
theorem d_Plans_covers_1 : decode prog_4_method_4_code 1 = .ok (.getfield 18, 3) := by decide +kernel
theorem d_Plans_covers_4 : decode prog_4_method_4_code 4 = .ok (.iload_n 1, 1) := by decide +kernel
theorem d_Plans_covers_5 : decode prog_4_method_4_code 5 = .ok (.iaload, 1) := by decide +kernel
theorem d_Plans_covers_6 : decode prog_4_method_4_code 6 = .ok (.iload_n 2, 1) := by decide +kernel
theorem d_Plans_covers_7 : decode prog_4_method_4_code 7 = .ok (.if_icmp .gt 17, 3) := by decide +kernel
theorem d_Plans_covers_10 : decode prog_4_method_4_code 10 = .ok (.iload_n 2, 1) := by decide +kernel
theorem d_Plans_covers_11 : decode prog_4_method_4_code 11 = .ok (.aload_n 0, 1) := by decide +kernel
theorem d_Plans_covers_12 : decode prog_4_method_4_code 12 = .ok (.getfield 21, 3) := by decide +kernel
theorem d_Plans_covers_15 : decode prog_4_method_4_code 15 = .ok (.iload_n 1, 1) := by decide +kernel
theorem d_Plans_covers_16 : decode prog_4_method_4_code 16 = .ok (.iaload, 1) := by decide +kernel
theorem d_Plans_covers_17 : decode prog_4_method_4_code 17 = .ok (.if_icmp .gt 7, 3) := by decide +kernel
theorem d_Plans_covers_20 : decode prog_4_method_4_code 20 = .ok (.iconst 1, 1) := by decide +kernel
theorem d_Plans_covers_21 : decode prog_4_method_4_code 21 = .ok (.goto 4, 3) := by decide +kernel
theorem d_Plans_covers_24 : decode prog_4_method_4_code 24 = .ok (.iconst 0, 1) := by decide +kernel
theorem d_Plans_covers_25 : decode prog_4_method_4_code 25 = .ok (.ireturn, 1) := by decide +kernel
theorem d_QuietTimes_init_0 : decode prog_5_method_1_code 0 = .ok (.aload_n 0, 1) := by decide +kernel
theorem d_QuietTimes_init_1 : decode prog_5_method_1_code 1 = .ok (.invokespecial 3, 3) := by decide +kernel
theorem d_QuietTimes_init_4 : decode prog_5_method_1_code 4 = .ok (.aload_n 0, 1) := by decide +kernel
theorem d_QuietTimes_init_5 : decode prog_5_method_1_code 5 = .ok (.bipush 20, 2) := by decide +kernel
theorem d_QuietTimes_init_7 : decode prog_5_method_1_code 7 = .ok (.newarray .int, 2) := by decide +kernel
theorem d_QuietTimes_init_9 : decode prog_5_method_1_code 9 = .ok (.putfield 9, 3) := by decide +kernel
theorem d_QuietTimes_init_12 : decode prog_5_method_1_code 12 = .ok (.aload_n 0, 1) := by decide +kernel
theorem d_QuietTimes_init_13 : decode prog_5_method_1_code 13 = .ok (.bipush 20, 2) := by decide +kernel
theorem d_QuietTimes_init_15 : decode prog_5_method_1_code 15 = .ok (.newarray .int, 2) := by decide +kernel
theorem d_QuietTimes_init_17 : decode prog_5_method_1_code 17 = .ok (.putfield 15, 3) := by decide +kernel
theorem d_QuietTimes_init_20 : decode prog_5_method_1_code 20 = .ok (.aload_n 0, 1) := by decide +kernel
theorem d_QuietTimes_init_21 : decode prog_5_method_1_code 21 = .ok (.bipush 20, 2) := by decide +kernel
theorem d_QuietTimes_init_23 : decode prog_5_method_1_code 23 = .ok (.newarray .int, 2) := by decide +kernel
theorem d_QuietTimes_init_25 : decode prog_5_method_1_code 25 = .ok (.putfield 18, 3) := by decide +kernel
theorem d_QuietTimes_init_28 : decode prog_5_method_1_code 28 = .ok (.aload_n 0, 1) := by decide +kernel
theorem d_QuietTimes_init_29 : decode prog_5_method_1_code 29 = .ok (.iconst 0, 1) := by decide +kernel
theorem d_QuietTimes_init_30 : decode prog_5_method_1_code 30 = .ok (.putfield 21, 3) := by decide +kernel
theorem d_QuietTimes_init_33 : decode prog_5_method_1_code 33 = .ok (.return_, 1) := by decide +kernel
theorem d_QuietTimes_add_0 : decode prog_5_method_2_code 0 = .ok (.aload_n 0, 1) := by decide +kernel
theorem d_QuietTimes_add_1 : decode prog_5_method_2_code 1 = .ok (.getfield 9, 3) := by decide +kernel
theorem d_QuietTimes_add_4 : decode prog_5_method_2_code 4 = .ok (.aload_n 0, 1) := by decide +kernel
theorem d_QuietTimes_add_5 : decode prog_5_method_2_code 5 = .ok (.getfield 21, 3) := by decide +kernel
theorem d_QuietTimes_add_8 : decode prog_5_method_2_code 8 = .ok (.iload_n 1, 1) := by decide +kernel
theorem d_QuietTimes_add_9 : decode prog_5_method_2_code 9 = .ok (.iastore, 1) := by decide +kernel
theorem d_QuietTimes_add_10 : decode prog_5_method_2_code 10 = .ok (.aload_n 0, 1) := by decide +kernel
theorem d_QuietTimes_add_11 : decode prog_5_method_2_code 11 = .ok (.getfield 15, 3) := by decide +kernel
theorem d_QuietTimes_add_14 : decode prog_5_method_2_code 14 = .ok (.aload_n 0, 1) := by decide +kernel
theorem d_QuietTimes_add_15 : decode prog_5_method_2_code 15 = .ok (.getfield 21, 3) := by decide +kernel
theorem d_QuietTimes_add_18 : decode prog_5_method_2_code 18 = .ok (.iload_n 2, 1) := by decide +kernel
theorem d_QuietTimes_add_19 : decode prog_5_method_2_code 19 = .ok (.iastore, 1) := by decide +kernel
theorem d_QuietTimes_add_20 : decode prog_5_method_2_code 20 = .ok (.aload_n 0, 1) := by decide +kernel
theorem d_QuietTimes_add_21 : decode prog_5_method_2_code 21 = .ok (.getfield 18, 3) := by decide +kernel
theorem d_QuietTimes_add_24 : decode prog_5_method_2_code 24 = .ok (.aload_n 0, 1) := by decide +kernel
theorem d_QuietTimes_add_25 : decode prog_5_method_2_code 25 = .ok (.getfield 21, 3) := by decide +kernel
theorem d_QuietTimes_add_28 : decode prog_5_method_2_code 28 = .ok (.iload_n 3, 1) := by decide +kernel
theorem d_QuietTimes_add_29 : decode prog_5_method_2_code 29 = .ok (.iastore, 1) := by decide +kernel
theorem d_QuietTimes_add_30 : decode prog_5_method_2_code 30 = .ok (.aload_n 0, 1) := by decide +kernel
theorem d_QuietTimes_add_31 : decode prog_5_method_2_code 31 = .ok (.dup, 1) := by decide +kernel
theorem d_QuietTimes_add_32 : decode prog_5_method_2_code 32 = .ok (.getfield 21, 3) := by decide +kernel
theorem d_QuietTimes_add_35 : decode prog_5_method_2_code 35 = .ok (.iconst 1, 1) := by decide +kernel
theorem d_QuietTimes_add_36 : decode prog_5_method_2_code 36 = .ok (.iadd, 1) := by decide +kernel
theorem d_QuietTimes_add_37 : decode prog_5_method_2_code 37 = .ok (.putfield 21, 3) := by decide +kernel
theorem d_QuietTimes_add_40 : decode prog_5_method_2_code 40 = .ok (.return_, 1) := by decide +kernel
theorem d_QuietTimes_covers_0 : decode prog_5_method_3_code 0 = .ok (.aload_n 0, 1) := by decide +kernel
theorem d_QuietTimes_covers_1 : decode prog_5_method_3_code 1 = .ok (.getfield 15, 3) := by decide +kernel
theorem d_QuietTimes_covers_4 : decode prog_5_method_3_code 4 = .ok (.iload_n 1, 1) := by decide +kernel
theorem d_QuietTimes_covers_5 : decode prog_5_method_3_code 5 = .ok (.iaload, 1) := by decide +kernel
theorem d_QuietTimes_covers_6 : decode prog_5_method_3_code 6 = .ok (.iload_n 2, 1) := by decide +kernel
theorem d_QuietTimes_covers_7 : decode prog_5_method_3_code 7 = .ok (.if_icmp .gt 17, 3) := by decide +kernel
theorem d_QuietTimes_covers_10 : decode prog_5_method_3_code 10 = .ok (.iload_n 2, 1) := by decide +kernel
theorem d_QuietTimes_covers_11 : decode prog_5_method_3_code 11 = .ok (.aload_n 0, 1) := by decide +kernel
theorem d_QuietTimes_covers_12 : decode prog_5_method_3_code 12 = .ok (.getfield 18, 3) := by decide +kernel
theorem d_QuietTimes_covers_15 : decode prog_5_method_3_code 15 = .ok (.iload_n 1, 1) := by decide +kernel
theorem d_QuietTimes_covers_16 : decode prog_5_method_3_code 16 = .ok (.iaload, 1) := by decide +kernel
theorem d_QuietTimes_covers_17 : decode prog_5_method_3_code 17 = .ok (.if_icmp .gt 7, 3) := by decide +kernel
theorem d_QuietTimes_covers_20 : decode prog_5_method_3_code 20 = .ok (.iconst 1, 1) := by decide +kernel
theorem d_QuietTimes_covers_21 : decode prog_5_method_3_code 21 = .ok (.goto 4, 3) := by decide +kernel
theorem d_QuietTimes_covers_24 : decode prog_5_method_3_code 24 = .ok (.iconst 0, 1) := by decide +kernel
theorem d_QuietTimes_covers_25 : decode prog_5_method_3_code 25 = .ok (.ireturn, 1) := by decide +kernel
end
section
/-! the class's world: seven objects and 25 arrays; what a cell k holds is σ k -/
def wX (ad : Nat → Nat) (cI cZ : ClassId) (σ : Sg) : va_W := [(ad 0, .inr (0, [.ref (ad 1), .ref (ad 2), .ref (ad 3), .ref (ad 4), .ref (ad 5), .ref (ad 6), .ref (ad 7), .ref (ad 8), .int (σ 0 0)])),
  (ad 1, .inr (1, [.ref (ad 9), .ref (ad 10), .int (σ 1 0)])),
  (ad 2, .inr (2, [.ref (ad 11), .ref (ad 12), .ref (ad 13), .ref (ad 14), .ref (ad 15), .ref (ad 16), .int (σ 2 0)])),
  (ad 3, .inr (3, [.ref (ad 17), .ref (ad 18), .ref (ad 19), .ref (ad 20), .int (σ 3 0)])),
  (ad 4, .inr (4, [.ref (ad 21), .ref (ad 22), .ref (ad 23), .ref (ad 24), .int (σ 4 0)])),
  (ad 5, .inr (5, [.ref (ad 25), .ref (ad 26), .ref (ad 27), .ref (ad 28), .int (σ 5 0)])),
  (ad 6, .inr (6, [.ref (ad 29), .ref (ad 30), .ref (ad 31), .int (σ 6 0)])),
  (ad 7, .inl (cZ, 10, .inl (σ 7))),
  (ad 8, .inl (cI, 20, .inl (σ 8))),
  (ad 9, .inl (cI, 24, .inl (σ 9))),
  (ad 10, .inl (cI, 24, .inl (σ 10))),
  (ad 11, .inl (cI, 20, .inl (σ 11))),
  (ad 12, .inl (cI, 20, .inl (σ 12))),
  (ad 13, .inl (cI, 20, .inl (σ 13))),
  (ad 14, .inl (cI, 20, .inl (σ 14))),
  (ad 15, .inl (cI, 20, .inl (σ 15))),
  (ad 16, .inl (cZ, 20, .inl (σ 16))),
  (ad 17, .inl (cI, 20, .inl (σ 17))),
  (ad 18, .inl (cI, 800, .inl (σ 18))),
  (ad 19, .inl (cI, 800, .inl (σ 19))),
  (ad 20, .inl (cI, 800, .inl (σ 20))),
  (ad 21, .inl (cI, 40, .inl (σ 21))),
  (ad 22, .inl (cI, 40, .inl (σ 22))),
  (ad 23, .inl (cI, 40, .inl (σ 23))),
  (ad 24, .inl (cI, 40, .inl (σ 24))),
  (ad 25, .inl (cI, 30, .inl (σ 25))),
  (ad 26, .inl (cI, 30, .inl (σ 26))),
  (ad 27, .inl (cI, 30, .inl (σ 27))),
  (ad 28, .inl (cI, 30, .inl (σ 28))),
  (ad 29, .inl (cI, 20, .inl (σ 29))),
  (ad 30, .inl (cI, 20, .inl (σ 30))),
  (ad 31, .inl (cI, 20, .inl (σ 31)))]
def NFl : List (String × Nat × String × String × String × String) := [("PlaceMoves", 228, "PlaceMoves$Places", "load", "[I", "PlaceMoves"), ("PlaceMoves", 72, "PlaceMoves$Places", "size", "I", "PlaceMoves"), ("PlaceMoves", 242, "PlaceMoves$Things", "least", "[I", "PlaceMoves"), ("PlaceMoves", 245, "PlaceMoves$Things", "middle", "[I", "PlaceMoves"), ("PlaceMoves", 248, "PlaceMoves$Things", "greatest", "[I", "PlaceMoves"), ("PlaceMoves", 239, "PlaceMoves$Things", "grams", "[I", "PlaceMoves"), ("PlaceMoves", 91, "PlaceMoves$Things", "keysNeeded", "[I", "PlaceMoves"), ("PlaceMoves", 97, "PlaceMoves$Things", "isBox", "[Z", "PlaceMoves"), ("PlaceMoves", 84, "PlaceMoves$Things", "size", "I", "PlaceMoves"), ("PlaceMoves", 100, "PlaceMoves$Rows", "size", "[I", "PlaceMoves"), ("PlaceMoves", 138, "PlaceMoves$Rows", "hour", "[I", "PlaceMoves"), ("PlaceMoves", 126, "PlaceMoves$Rows", "kind", "[I", "PlaceMoves"), ("PlaceMoves", 141, "PlaceMoves$Rows", "target", "[I", "PlaceMoves"), ("PlaceMoves", 186, "PlaceMoves$Rows", "total", "I", "PlaceMoves"), ("PlaceMoves", 151, "PlaceMoves$Doors", "size", "I", "PlaceMoves"), ("PlaceMoves", 235, "PlaceMoves$Plans", "object", "[I", "PlaceMoves"), ("PlaceMoves", 238, "PlaceMoves$Plans", "place", "[I", "PlaceMoves"), ("PlaceMoves", 225, "PlaceMoves$Plans", "from", "[I", "PlaceMoves"), ("PlaceMoves", 164, "PlaceMoves$Plans", "size", "I", "PlaceMoves"), ("PlaceMoves", 210, "PlaceMoves$QuietTimes", "place", "[I", "PlaceMoves"), ("PlaceMoves", 183, "PlaceMoves$QuietTimes", "size", "I", "PlaceMoves")]
def NMl : List (String × Nat × MethodName × String) := [("PlaceMoves", 9, ⟨"PlaceMoves$Places", "<init>", "()V"⟩, "PlaceMoves"), ("PlaceMoves", 18, ⟨"PlaceMoves$Things", "<init>", "()V"⟩, "PlaceMoves"), ("PlaceMoves", 25, ⟨"PlaceMoves$Rows", "<init>", "()V"⟩, "PlaceMoves"), ("PlaceMoves", 32, ⟨"PlaceMoves$Doors", "<init>", "()V"⟩, "PlaceMoves"), ("PlaceMoves", 39, ⟨"PlaceMoves$Plans", "<init>", "()V"⟩, "PlaceMoves"), ("PlaceMoves", 46, ⟨"PlaceMoves$QuietTimes", "<init>", "()V"⟩, "PlaceMoves")]
def NFw (q : String × Nat × String × String × String × String) : Cond := .fieldLinkNest q.1 q.2.1 q.2.2.1 q.2.2.2.1 q.2.2.2.2.1 q.2.2.2.2.2
def NMw (q : String × Nat × MethodName × String) : Cond := .methodLinkNest q.1 q.2.1 q.2.2.1 q.2.2.2
/-- what the tables say at a state, as it is handed to every callee -/
def KX (G : va_G) (cI cZ : ClassId) (U : State) : Prop := va_K G clX [(cI, .int), (cZ, .boolean)] U ∧ (∀ q ∈ NFl, va_Nw (NFw q) U) ∧ ∀ q ∈ NMl, va_Nw (NMw q) U
theorem KX.warm {G : va_G} {cI cZ : ClassId} {s U : State} (h : KX G cI cZ s) (hW : s.WarmedH U.vm) : KX G cI cZ U :=
  ⟨va_K.moved hW.alike h.1, fun q hq => va_Nw.warmF hW (h.2.1 q hq), fun q hq => va_Nw.warmM hW (h.2.2 q hq)⟩
theorem KX.same {G : va_G} {cI cZ : ClassId} {u U : State} (h : KX G cI cZ u) (e : u.vm = U.vm) : KX G cI cZ U :=
  ⟨va_K.moved (by rw [e]; exact Vm.Alike.refl _) h.1, fun q hq => va_Nw.same rfl e (h.2.1 q hq), fun q hq => va_Nw.same rfl e (h.2.2 q hq)⟩
def CX (own : String) (cc : ByteArray) (p : Program) (s : State) (m : MethodId) (args : Array Value) (c : Code) (G : va_G) (cI cZ : ClassId) : Prop :=
  p.tables.exec = Jvm.exec ∧ c.code = cc ∧ s.vm.findClass own = some m.cls ∧ (∀ w ∈ WG, w.before args s = true) ∧ KX G cI cZ s
/-- a reading method's start -/
def PcX (G : va_G) (ad : Nat → Nat) (cI cZ : ClassId) (σ : Sg) (av : List Value) : Array Value → State → Prop := va_Pc av (fun U => va_P G clX (wX ad cI cZ σ) U.heap ∧ KX G cI cZ U)
theorem PcX.blind {G : va_G} {ad : Nat → Nat} {cI cZ : ClassId} {σ : Sg} {av : List Value} : FrameBlind (PcX G ad cI cZ σ av) := fun a U g mk h => ⟨h.1, h.2.1, h.2.2.same rfl⟩
/-- a writing method's world -/
def AX (ad : Nat → Nat) : Nat → Prop := fun q => ∃ k, k < 32 ∧ q = ad k
def DX (ad : Nat → Nat) : Prop := ∀ i j, i < 32 → j < 32 → ad i = ad j → i = j
def WS (G : va_G) (ad : Nat → Nat) (cI cZ : ClassId) (s : State) (σ : Sg) (H : Heap) (locs : List Loc) : Prop := va_P G clX (wX ad cI cZ σ) H ∧ va_S (AX ad) s.heap H locs
end
section
section RX
variable {p : Program} {l : Launch} {e : Env} {R : Room} {s : State} {m : MethodId} {args : Array Value} {below : List Frame} {meth : Method} {c : Code} {H : Heap} {locs : List Loc} {cells slots : Nat} {Q : State → Prop}
variable {cc : ByteArray} {pc : Nat} {ls : Array Slot} {rest : List Value} {G : va_G} {ad : Nat → Nat} {cI cZ : ClassId} {σ : Sg} {own : String}
theorem al_7 (C : CX own cc p s m args c G cI cZ) (hP : va_P G clX (wX ad cI cZ σ) H) {i : Int32} (hin : inB i 10 = true) (hd : decode cc pc = .ok (.baload, 1)) (kk : W p l e R s m args below meth c H locs cells slots Q (F0 m (pc + 1) ls (.int (σ 7 (Int32.toNatClampNeg i)) :: rest))) : W p l e R s m args below meth c H locs cells slots Q (F0 m pc ls (.int i :: .ref (ad 7) :: rest)) :=
  va_zald C.1 C.2.1 C.2.2.2.2.1 hP 7 1 rfl rfl (inB_in hin) hd kk
theorem al_8 (C : CX own cc p s m args c G cI cZ) (hP : va_P G clX (wX ad cI cZ σ) H) {i : Int32} (hin : inB i 20 = true) (hd : decode cc pc = .ok (.iaload, 1)) (kk : W p l e R s m args below meth c H locs cells slots Q (F0 m (pc + 1) ls (.int (σ 8 (Int32.toNatClampNeg i)) :: rest))) : W p l e R s m args below meth c H locs cells slots Q (F0 m pc ls (.int i :: .ref (ad 8) :: rest)) :=
  va_iald C.1 C.2.1 C.2.2.2.2.1 hP 8 0 rfl rfl (inB_in hin) hd kk
theorem al_9 (C : CX own cc p s m args c G cI cZ) (hP : va_P G clX (wX ad cI cZ σ) H) {i : Int32} (hin : inB i 24 = true) (hd : decode cc pc = .ok (.iaload, 1)) (kk : W p l e R s m args below meth c H locs cells slots Q (F0 m (pc + 1) ls (.int (σ 9 (Int32.toNatClampNeg i)) :: rest))) : W p l e R s m args below meth c H locs cells slots Q (F0 m pc ls (.int i :: .ref (ad 9) :: rest)) :=
  va_iald C.1 C.2.1 C.2.2.2.2.1 hP 9 0 rfl rfl (inB_in hin) hd kk
theorem al_10 (C : CX own cc p s m args c G cI cZ) (hP : va_P G clX (wX ad cI cZ σ) H) {i : Int32} (hin : inB i 24 = true) (hd : decode cc pc = .ok (.iaload, 1)) (kk : W p l e R s m args below meth c H locs cells slots Q (F0 m (pc + 1) ls (.int (σ 10 (Int32.toNatClampNeg i)) :: rest))) : W p l e R s m args below meth c H locs cells slots Q (F0 m pc ls (.int i :: .ref (ad 10) :: rest)) :=
  va_iald C.1 C.2.1 C.2.2.2.2.1 hP 10 0 rfl rfl (inB_in hin) hd kk
theorem al_11 (C : CX own cc p s m args c G cI cZ) (hP : va_P G clX (wX ad cI cZ σ) H) {i : Int32} (hin : inB i 20 = true) (hd : decode cc pc = .ok (.iaload, 1)) (kk : W p l e R s m args below meth c H locs cells slots Q (F0 m (pc + 1) ls (.int (σ 11 (Int32.toNatClampNeg i)) :: rest))) : W p l e R s m args below meth c H locs cells slots Q (F0 m pc ls (.int i :: .ref (ad 11) :: rest)) :=
  va_iald C.1 C.2.1 C.2.2.2.2.1 hP 11 0 rfl rfl (inB_in hin) hd kk
theorem al_12 (C : CX own cc p s m args c G cI cZ) (hP : va_P G clX (wX ad cI cZ σ) H) {i : Int32} (hin : inB i 20 = true) (hd : decode cc pc = .ok (.iaload, 1)) (kk : W p l e R s m args below meth c H locs cells slots Q (F0 m (pc + 1) ls (.int (σ 12 (Int32.toNatClampNeg i)) :: rest))) : W p l e R s m args below meth c H locs cells slots Q (F0 m pc ls (.int i :: .ref (ad 12) :: rest)) :=
  va_iald C.1 C.2.1 C.2.2.2.2.1 hP 12 0 rfl rfl (inB_in hin) hd kk
theorem al_13 (C : CX own cc p s m args c G cI cZ) (hP : va_P G clX (wX ad cI cZ σ) H) {i : Int32} (hin : inB i 20 = true) (hd : decode cc pc = .ok (.iaload, 1)) (kk : W p l e R s m args below meth c H locs cells slots Q (F0 m (pc + 1) ls (.int (σ 13 (Int32.toNatClampNeg i)) :: rest))) : W p l e R s m args below meth c H locs cells slots Q (F0 m pc ls (.int i :: .ref (ad 13) :: rest)) :=
  va_iald C.1 C.2.1 C.2.2.2.2.1 hP 13 0 rfl rfl (inB_in hin) hd kk
theorem al_14 (C : CX own cc p s m args c G cI cZ) (hP : va_P G clX (wX ad cI cZ σ) H) {i : Int32} (hin : inB i 20 = true) (hd : decode cc pc = .ok (.iaload, 1)) (kk : W p l e R s m args below meth c H locs cells slots Q (F0 m (pc + 1) ls (.int (σ 14 (Int32.toNatClampNeg i)) :: rest))) : W p l e R s m args below meth c H locs cells slots Q (F0 m pc ls (.int i :: .ref (ad 14) :: rest)) :=
  va_iald C.1 C.2.1 C.2.2.2.2.1 hP 14 0 rfl rfl (inB_in hin) hd kk
theorem al_15 (C : CX own cc p s m args c G cI cZ) (hP : va_P G clX (wX ad cI cZ σ) H) {i : Int32} (hin : inB i 20 = true) (hd : decode cc pc = .ok (.iaload, 1)) (kk : W p l e R s m args below meth c H locs cells slots Q (F0 m (pc + 1) ls (.int (σ 15 (Int32.toNatClampNeg i)) :: rest))) : W p l e R s m args below meth c H locs cells slots Q (F0 m pc ls (.int i :: .ref (ad 15) :: rest)) :=
  va_iald C.1 C.2.1 C.2.2.2.2.1 hP 15 0 rfl rfl (inB_in hin) hd kk
theorem al_16 (C : CX own cc p s m args c G cI cZ) (hP : va_P G clX (wX ad cI cZ σ) H) {i : Int32} (hin : inB i 20 = true) (hd : decode cc pc = .ok (.baload, 1)) (kk : W p l e R s m args below meth c H locs cells slots Q (F0 m (pc + 1) ls (.int (σ 16 (Int32.toNatClampNeg i)) :: rest))) : W p l e R s m args below meth c H locs cells slots Q (F0 m pc ls (.int i :: .ref (ad 16) :: rest)) :=
  va_zald C.1 C.2.1 C.2.2.2.2.1 hP 16 1 rfl rfl (inB_in hin) hd kk
theorem al_17 (C : CX own cc p s m args c G cI cZ) (hP : va_P G clX (wX ad cI cZ σ) H) {i : Int32} (hin : inB i 20 = true) (hd : decode cc pc = .ok (.iaload, 1)) (kk : W p l e R s m args below meth c H locs cells slots Q (F0 m (pc + 1) ls (.int (σ 17 (Int32.toNatClampNeg i)) :: rest))) : W p l e R s m args below meth c H locs cells slots Q (F0 m pc ls (.int i :: .ref (ad 17) :: rest)) :=
  va_iald C.1 C.2.1 C.2.2.2.2.1 hP 17 0 rfl rfl (inB_in hin) hd kk
theorem al_18 (C : CX own cc p s m args c G cI cZ) (hP : va_P G clX (wX ad cI cZ σ) H) {i : Int32} (hin : inB i 800 = true) (hd : decode cc pc = .ok (.iaload, 1)) (kk : W p l e R s m args below meth c H locs cells slots Q (F0 m (pc + 1) ls (.int (σ 18 (Int32.toNatClampNeg i)) :: rest))) : W p l e R s m args below meth c H locs cells slots Q (F0 m pc ls (.int i :: .ref (ad 18) :: rest)) :=
  va_iald C.1 C.2.1 C.2.2.2.2.1 hP 18 0 rfl rfl (inB_in hin) hd kk
theorem al_19 (C : CX own cc p s m args c G cI cZ) (hP : va_P G clX (wX ad cI cZ σ) H) {i : Int32} (hin : inB i 800 = true) (hd : decode cc pc = .ok (.iaload, 1)) (kk : W p l e R s m args below meth c H locs cells slots Q (F0 m (pc + 1) ls (.int (σ 19 (Int32.toNatClampNeg i)) :: rest))) : W p l e R s m args below meth c H locs cells slots Q (F0 m pc ls (.int i :: .ref (ad 19) :: rest)) :=
  va_iald C.1 C.2.1 C.2.2.2.2.1 hP 19 0 rfl rfl (inB_in hin) hd kk
theorem al_20 (C : CX own cc p s m args c G cI cZ) (hP : va_P G clX (wX ad cI cZ σ) H) {i : Int32} (hin : inB i 800 = true) (hd : decode cc pc = .ok (.iaload, 1)) (kk : W p l e R s m args below meth c H locs cells slots Q (F0 m (pc + 1) ls (.int (σ 20 (Int32.toNatClampNeg i)) :: rest))) : W p l e R s m args below meth c H locs cells slots Q (F0 m pc ls (.int i :: .ref (ad 20) :: rest)) :=
  va_iald C.1 C.2.1 C.2.2.2.2.1 hP 20 0 rfl rfl (inB_in hin) hd kk
theorem al_21 (C : CX own cc p s m args c G cI cZ) (hP : va_P G clX (wX ad cI cZ σ) H) {i : Int32} (hin : inB i 40 = true) (hd : decode cc pc = .ok (.iaload, 1)) (kk : W p l e R s m args below meth c H locs cells slots Q (F0 m (pc + 1) ls (.int (σ 21 (Int32.toNatClampNeg i)) :: rest))) : W p l e R s m args below meth c H locs cells slots Q (F0 m pc ls (.int i :: .ref (ad 21) :: rest)) :=
  va_iald C.1 C.2.1 C.2.2.2.2.1 hP 21 0 rfl rfl (inB_in hin) hd kk
theorem al_22 (C : CX own cc p s m args c G cI cZ) (hP : va_P G clX (wX ad cI cZ σ) H) {i : Int32} (hin : inB i 40 = true) (hd : decode cc pc = .ok (.iaload, 1)) (kk : W p l e R s m args below meth c H locs cells slots Q (F0 m (pc + 1) ls (.int (σ 22 (Int32.toNatClampNeg i)) :: rest))) : W p l e R s m args below meth c H locs cells slots Q (F0 m pc ls (.int i :: .ref (ad 22) :: rest)) :=
  va_iald C.1 C.2.1 C.2.2.2.2.1 hP 22 0 rfl rfl (inB_in hin) hd kk
theorem al_23 (C : CX own cc p s m args c G cI cZ) (hP : va_P G clX (wX ad cI cZ σ) H) {i : Int32} (hin : inB i 40 = true) (hd : decode cc pc = .ok (.iaload, 1)) (kk : W p l e R s m args below meth c H locs cells slots Q (F0 m (pc + 1) ls (.int (σ 23 (Int32.toNatClampNeg i)) :: rest))) : W p l e R s m args below meth c H locs cells slots Q (F0 m pc ls (.int i :: .ref (ad 23) :: rest)) :=
  va_iald C.1 C.2.1 C.2.2.2.2.1 hP 23 0 rfl rfl (inB_in hin) hd kk
theorem al_24 (C : CX own cc p s m args c G cI cZ) (hP : va_P G clX (wX ad cI cZ σ) H) {i : Int32} (hin : inB i 40 = true) (hd : decode cc pc = .ok (.iaload, 1)) (kk : W p l e R s m args below meth c H locs cells slots Q (F0 m (pc + 1) ls (.int (σ 24 (Int32.toNatClampNeg i)) :: rest))) : W p l e R s m args below meth c H locs cells slots Q (F0 m pc ls (.int i :: .ref (ad 24) :: rest)) :=
  va_iald C.1 C.2.1 C.2.2.2.2.1 hP 24 0 rfl rfl (inB_in hin) hd kk
theorem al_25 (C : CX own cc p s m args c G cI cZ) (hP : va_P G clX (wX ad cI cZ σ) H) {i : Int32} (hin : inB i 30 = true) (hd : decode cc pc = .ok (.iaload, 1)) (kk : W p l e R s m args below meth c H locs cells slots Q (F0 m (pc + 1) ls (.int (σ 25 (Int32.toNatClampNeg i)) :: rest))) : W p l e R s m args below meth c H locs cells slots Q (F0 m pc ls (.int i :: .ref (ad 25) :: rest)) :=
  va_iald C.1 C.2.1 C.2.2.2.2.1 hP 25 0 rfl rfl (inB_in hin) hd kk
theorem al_26 (C : CX own cc p s m args c G cI cZ) (hP : va_P G clX (wX ad cI cZ σ) H) {i : Int32} (hin : inB i 30 = true) (hd : decode cc pc = .ok (.iaload, 1)) (kk : W p l e R s m args below meth c H locs cells slots Q (F0 m (pc + 1) ls (.int (σ 26 (Int32.toNatClampNeg i)) :: rest))) : W p l e R s m args below meth c H locs cells slots Q (F0 m pc ls (.int i :: .ref (ad 26) :: rest)) :=
  va_iald C.1 C.2.1 C.2.2.2.2.1 hP 26 0 rfl rfl (inB_in hin) hd kk
theorem al_27 (C : CX own cc p s m args c G cI cZ) (hP : va_P G clX (wX ad cI cZ σ) H) {i : Int32} (hin : inB i 30 = true) (hd : decode cc pc = .ok (.iaload, 1)) (kk : W p l e R s m args below meth c H locs cells slots Q (F0 m (pc + 1) ls (.int (σ 27 (Int32.toNatClampNeg i)) :: rest))) : W p l e R s m args below meth c H locs cells slots Q (F0 m pc ls (.int i :: .ref (ad 27) :: rest)) :=
  va_iald C.1 C.2.1 C.2.2.2.2.1 hP 27 0 rfl rfl (inB_in hin) hd kk
theorem al_28 (C : CX own cc p s m args c G cI cZ) (hP : va_P G clX (wX ad cI cZ σ) H) {i : Int32} (hin : inB i 30 = true) (hd : decode cc pc = .ok (.iaload, 1)) (kk : W p l e R s m args below meth c H locs cells slots Q (F0 m (pc + 1) ls (.int (σ 28 (Int32.toNatClampNeg i)) :: rest))) : W p l e R s m args below meth c H locs cells slots Q (F0 m pc ls (.int i :: .ref (ad 28) :: rest)) :=
  va_iald C.1 C.2.1 C.2.2.2.2.1 hP 28 0 rfl rfl (inB_in hin) hd kk
theorem al_29 (C : CX own cc p s m args c G cI cZ) (hP : va_P G clX (wX ad cI cZ σ) H) {i : Int32} (hin : inB i 20 = true) (hd : decode cc pc = .ok (.iaload, 1)) (kk : W p l e R s m args below meth c H locs cells slots Q (F0 m (pc + 1) ls (.int (σ 29 (Int32.toNatClampNeg i)) :: rest))) : W p l e R s m args below meth c H locs cells slots Q (F0 m pc ls (.int i :: .ref (ad 29) :: rest)) :=
  va_iald C.1 C.2.1 C.2.2.2.2.1 hP 29 0 rfl rfl (inB_in hin) hd kk
theorem al_30 (C : CX own cc p s m args c G cI cZ) (hP : va_P G clX (wX ad cI cZ σ) H) {i : Int32} (hin : inB i 20 = true) (hd : decode cc pc = .ok (.iaload, 1)) (kk : W p l e R s m args below meth c H locs cells slots Q (F0 m (pc + 1) ls (.int (σ 30 (Int32.toNatClampNeg i)) :: rest))) : W p l e R s m args below meth c H locs cells slots Q (F0 m pc ls (.int i :: .ref (ad 30) :: rest)) :=
  va_iald C.1 C.2.1 C.2.2.2.2.1 hP 30 0 rfl rfl (inB_in hin) hd kk
theorem al_31 (C : CX own cc p s m args c G cI cZ) (hP : va_P G clX (wX ad cI cZ σ) H) {i : Int32} (hin : inB i 20 = true) (hd : decode cc pc = .ok (.iaload, 1)) (kk : W p l e R s m args below meth c H locs cells slots Q (F0 m (pc + 1) ls (.int (σ 31 (Int32.toNatClampNeg i)) :: rest))) : W p l e R s m args below meth c H locs cells slots Q (F0 m pc ls (.int i :: .ref (ad 31) :: rest)) :=
  va_iald C.1 C.2.1 C.2.2.2.2.1 hP 31 0 rfl rfl (inB_in hin) hd kk
theorem gf_PM_10 (C : CX "PlaceMoves" cc p s m args c G cI cZ) (hP : va_P G clX (wX ad cI cZ σ) H) (hd : decode cc pc = .ok (.getfield 10, 3)) (kk : W p l e R s m args below meth c H locs cells slots Q (F0 m (pc + 3) ls (.ref (ad 1) :: rest))) : W p l e R s m args below meth c H locs cells slots Q (F0 m pc ls (.ref (ad 0) :: rest)) :=
  va_get (D := G) (ci := 0) (v := .ref (ad 1)) (C := "PlaceMoves") (T := F_PM) (N := 9) C.1 C.2.1 C.2.2.2.1 i_PM C.2.2.1 C.2.2.2.2.1 hP 0 rfl rfl 0 (by decide) (C.2.2.2.1 _ w_176) (fun _ h9 => h9) rfl hd kk
theorem gf_PM_72 (C : CX "PlaceMoves" cc p s m args c G cI cZ) (hP : va_P G clX (wX ad cI cZ σ) H) (hd : decode cc pc = .ok (.getfield 72, 3)) (kk : W p l e R s m args below meth c H locs cells slots Q (F0 m (pc + 3) ls (.int (σ 1 0) :: rest))) : W p l e R s m args below meth c H locs cells slots Q (F0 m pc ls (.ref (ad 1) :: rest)) :=
  va_getN (D := G) (ci := 1) (v := .int (σ 1 0)) (C := "PlaceMoves$Places") (T := F_Places) (N := 3) (host := "PlaceMoves") C.1 C.2.1 C.2.2.2.1 i_Places C.2.2.1 C.2.2.2.2.1 hP 1 rfl rfl 2 (by decide) (va_Nw.use (w := Cond.fieldLinkNest "PlaceMoves" 72 "PlaceMoves$Places" "size" "I" "PlaceMoves") rfl (C.2.2.2.2.2.1 ("PlaceMoves", 72, "PlaceMoves$Places", "size", "I", "PlaceMoves") (List.mem_of_getElem? (i := 1) rfl))) (fun _ h9 => h9) rfl hd kk
theorem gf_PM_19 (C : CX "PlaceMoves" cc p s m args c G cI cZ) (hP : va_P G clX (wX ad cI cZ σ) H) (hd : decode cc pc = .ok (.getfield 19, 3)) (kk : W p l e R s m args below meth c H locs cells slots Q (F0 m (pc + 3) ls (.ref (ad 2) :: rest))) : W p l e R s m args below meth c H locs cells slots Q (F0 m pc ls (.ref (ad 0) :: rest)) :=
  va_get (D := G) (ci := 0) (v := .ref (ad 2)) (C := "PlaceMoves") (T := F_PM) (N := 9) C.1 C.2.1 C.2.2.2.1 i_PM C.2.2.1 C.2.2.2.2.1 hP 0 rfl rfl 1 (by decide) (C.2.2.2.1 _ w_177) (fun _ h9 => h9) rfl hd kk
theorem gf_PM_84 (C : CX "PlaceMoves" cc p s m args c G cI cZ) (hP : va_P G clX (wX ad cI cZ σ) H) (hd : decode cc pc = .ok (.getfield 84, 3)) (kk : W p l e R s m args below meth c H locs cells slots Q (F0 m (pc + 3) ls (.int (σ 2 0) :: rest))) : W p l e R s m args below meth c H locs cells slots Q (F0 m pc ls (.ref (ad 2) :: rest)) :=
  va_getN (D := G) (ci := 2) (v := .int (σ 2 0)) (C := "PlaceMoves$Things") (T := F_Things) (N := 7) (host := "PlaceMoves") C.1 C.2.1 C.2.2.2.1 i_Things C.2.2.1 C.2.2.2.2.1 hP 2 rfl rfl 6 (by decide) (va_Nw.use (w := Cond.fieldLinkNest "PlaceMoves" 84 "PlaceMoves$Things" "size" "I" "PlaceMoves") rfl (C.2.2.2.2.2.1 ("PlaceMoves", 84, "PlaceMoves$Things", "size", "I", "PlaceMoves") (List.mem_of_getElem? (i := 8) rfl))) (fun _ h9 => h9) rfl hd kk
theorem gf_PM_91 (C : CX "PlaceMoves" cc p s m args c G cI cZ) (hP : va_P G clX (wX ad cI cZ σ) H) (hd : decode cc pc = .ok (.getfield 91, 3)) (kk : W p l e R s m args below meth c H locs cells slots Q (F0 m (pc + 3) ls (.ref (ad 15) :: rest))) : W p l e R s m args below meth c H locs cells slots Q (F0 m pc ls (.ref (ad 2) :: rest)) :=
  va_getN (D := G) (ci := 2) (v := .ref (ad 15)) (C := "PlaceMoves$Things") (T := F_Things) (N := 7) (host := "PlaceMoves") C.1 C.2.1 C.2.2.2.1 i_Things C.2.2.1 C.2.2.2.2.1 hP 2 rfl rfl 4 (by decide) (va_Nw.use (w := Cond.fieldLinkNest "PlaceMoves" 91 "PlaceMoves$Things" "keysNeeded" "[I" "PlaceMoves") rfl (C.2.2.2.2.2.1 ("PlaceMoves", 91, "PlaceMoves$Things", "keysNeeded", "[I", "PlaceMoves") (List.mem_of_getElem? (i := 6) rfl))) (fun _ h9 => h9) rfl hd kk
theorem gf_PM_51 (C : CX "PlaceMoves" cc p s m args c G cI cZ) (hP : va_P G clX (wX ad cI cZ σ) H) (hd : decode cc pc = .ok (.getfield 51, 3)) (kk : W p l e R s m args below meth c H locs cells slots Q (F0 m (pc + 3) ls (.ref (ad 7) :: rest))) : W p l e R s m args below meth c H locs cells slots Q (F0 m pc ls (.ref (ad 0) :: rest)) :=
  va_get (D := G) (ci := 0) (v := .ref (ad 7)) (C := "PlaceMoves") (T := F_PM) (N := 9) C.1 C.2.1 C.2.2.2.1 i_PM C.2.2.1 C.2.2.2.2.1 hP 0 rfl rfl 6 (by decide) (C.2.2.2.1 _ w_182) (fun _ h9 => h9) rfl hd kk
theorem gf_PM_97 (C : CX "PlaceMoves" cc p s m args c G cI cZ) (hP : va_P G clX (wX ad cI cZ σ) H) (hd : decode cc pc = .ok (.getfield 97, 3)) (kk : W p l e R s m args below meth c H locs cells slots Q (F0 m (pc + 3) ls (.ref (ad 16) :: rest))) : W p l e R s m args below meth c H locs cells slots Q (F0 m pc ls (.ref (ad 2) :: rest)) :=
  va_getN (D := G) (ci := 2) (v := .ref (ad 16)) (C := "PlaceMoves$Things") (T := F_Things) (N := 7) (host := "PlaceMoves") C.1 C.2.1 C.2.2.2.1 i_Things C.2.2.1 C.2.2.2.2.1 hP 2 rfl rfl 5 (by decide) (va_Nw.use (w := Cond.fieldLinkNest "PlaceMoves" 97 "PlaceMoves$Things" "isBox" "[Z" "PlaceMoves") rfl (C.2.2.2.2.2.1 ("PlaceMoves", 97, "PlaceMoves$Things", "isBox", "[Z", "PlaceMoves") (List.mem_of_getElem? (i := 7) rfl))) (fun _ h9 => h9) rfl hd kk
theorem gf_PM_59 (C : CX "PlaceMoves" cc p s m args c G cI cZ) (hP : va_P G clX (wX ad cI cZ σ) H) (hd : decode cc pc = .ok (.getfield 59, 3)) (kk : W p l e R s m args below meth c H locs cells slots Q (F0 m (pc + 3) ls (.int (σ 0 0) :: rest))) : W p l e R s m args below meth c H locs cells slots Q (F0 m pc ls (.ref (ad 0) :: rest)) :=
  va_get (D := G) (ci := 0) (v := .int (σ 0 0)) (C := "PlaceMoves") (T := F_PM) (N := 9) C.1 C.2.1 C.2.2.2.1 i_PM C.2.2.1 C.2.2.2.2.1 hP 0 rfl rfl 8 (by decide) (C.2.2.2.1 _ w_184) (fun _ h9 => h9) rfl hd kk
theorem gf_PM_26 (C : CX "PlaceMoves" cc p s m args c G cI cZ) (hP : va_P G clX (wX ad cI cZ σ) H) (hd : decode cc pc = .ok (.getfield 26, 3)) (kk : W p l e R s m args below meth c H locs cells slots Q (F0 m (pc + 3) ls (.ref (ad 3) :: rest))) : W p l e R s m args below meth c H locs cells slots Q (F0 m pc ls (.ref (ad 0) :: rest)) :=
  va_get (D := G) (ci := 0) (v := .ref (ad 3)) (C := "PlaceMoves") (T := F_PM) (N := 9) C.1 C.2.1 C.2.2.2.1 i_PM C.2.2.1 C.2.2.2.2.1 hP 0 rfl rfl 2 (by decide) (C.2.2.2.1 _ w_178) (fun _ h9 => h9) rfl hd kk
theorem gf_PM_100 (C : CX "PlaceMoves" cc p s m args c G cI cZ) (hP : va_P G clX (wX ad cI cZ σ) H) (hd : decode cc pc = .ok (.getfield 100, 3)) (kk : W p l e R s m args below meth c H locs cells slots Q (F0 m (pc + 3) ls (.ref (ad 17) :: rest))) : W p l e R s m args below meth c H locs cells slots Q (F0 m pc ls (.ref (ad 3) :: rest)) :=
  va_getN (D := G) (ci := 3) (v := .ref (ad 17)) (C := "PlaceMoves$Rows") (T := F_Rows) (N := 5) (host := "PlaceMoves") C.1 C.2.1 C.2.2.2.1 i_Rows C.2.2.1 C.2.2.2.2.1 hP 3 rfl rfl 0 (by decide) (va_Nw.use (w := Cond.fieldLinkNest "PlaceMoves" 100 "PlaceMoves$Rows" "size" "[I" "PlaceMoves") rfl (C.2.2.2.2.2.1 ("PlaceMoves", 100, "PlaceMoves$Rows", "size", "[I", "PlaceMoves") (List.mem_of_getElem? (i := 9) rfl))) (fun _ h9 => h9) rfl hd kk
theorem gf_PM_126 (C : CX "PlaceMoves" cc p s m args c G cI cZ) (hP : va_P G clX (wX ad cI cZ σ) H) (hd : decode cc pc = .ok (.getfield 126, 3)) (kk : W p l e R s m args below meth c H locs cells slots Q (F0 m (pc + 3) ls (.ref (ad 19) :: rest))) : W p l e R s m args below meth c H locs cells slots Q (F0 m pc ls (.ref (ad 3) :: rest)) :=
  va_getN (D := G) (ci := 3) (v := .ref (ad 19)) (C := "PlaceMoves$Rows") (T := F_Rows) (N := 5) (host := "PlaceMoves") C.1 C.2.1 C.2.2.2.1 i_Rows C.2.2.1 C.2.2.2.2.1 hP 3 rfl rfl 2 (by decide) (va_Nw.use (w := Cond.fieldLinkNest "PlaceMoves" 126 "PlaceMoves$Rows" "kind" "[I" "PlaceMoves") rfl (C.2.2.2.2.2.1 ("PlaceMoves", 126, "PlaceMoves$Rows", "kind", "[I", "PlaceMoves") (List.mem_of_getElem? (i := 11) rfl))) (fun _ h9 => h9) rfl hd kk
theorem gf_PM_138 (C : CX "PlaceMoves" cc p s m args c G cI cZ) (hP : va_P G clX (wX ad cI cZ σ) H) (hd : decode cc pc = .ok (.getfield 138, 3)) (kk : W p l e R s m args below meth c H locs cells slots Q (F0 m (pc + 3) ls (.ref (ad 18) :: rest))) : W p l e R s m args below meth c H locs cells slots Q (F0 m pc ls (.ref (ad 3) :: rest)) :=
  va_getN (D := G) (ci := 3) (v := .ref (ad 18)) (C := "PlaceMoves$Rows") (T := F_Rows) (N := 5) (host := "PlaceMoves") C.1 C.2.1 C.2.2.2.1 i_Rows C.2.2.1 C.2.2.2.2.1 hP 3 rfl rfl 1 (by decide) (va_Nw.use (w := Cond.fieldLinkNest "PlaceMoves" 138 "PlaceMoves$Rows" "hour" "[I" "PlaceMoves") rfl (C.2.2.2.2.2.1 ("PlaceMoves", 138, "PlaceMoves$Rows", "hour", "[I", "PlaceMoves") (List.mem_of_getElem? (i := 10) rfl))) (fun _ h9 => h9) rfl hd kk
theorem gf_PM_141 (C : CX "PlaceMoves" cc p s m args c G cI cZ) (hP : va_P G clX (wX ad cI cZ σ) H) (hd : decode cc pc = .ok (.getfield 141, 3)) (kk : W p l e R s m args below meth c H locs cells slots Q (F0 m (pc + 3) ls (.ref (ad 20) :: rest))) : W p l e R s m args below meth c H locs cells slots Q (F0 m pc ls (.ref (ad 3) :: rest)) :=
  va_getN (D := G) (ci := 3) (v := .ref (ad 20)) (C := "PlaceMoves$Rows") (T := F_Rows) (N := 5) (host := "PlaceMoves") C.1 C.2.1 C.2.2.2.1 i_Rows C.2.2.1 C.2.2.2.2.1 hP 3 rfl rfl 3 (by decide) (va_Nw.use (w := Cond.fieldLinkNest "PlaceMoves" 141 "PlaceMoves$Rows" "target" "[I" "PlaceMoves") rfl (C.2.2.2.2.2.1 ("PlaceMoves", 141, "PlaceMoves$Rows", "target", "[I", "PlaceMoves") (List.mem_of_getElem? (i := 12) rfl))) (fun _ h9 => h9) rfl hd kk
theorem gf_PM_33 (C : CX "PlaceMoves" cc p s m args c G cI cZ) (hP : va_P G clX (wX ad cI cZ σ) H) (hd : decode cc pc = .ok (.getfield 33, 3)) (kk : W p l e R s m args below meth c H locs cells slots Q (F0 m (pc + 3) ls (.ref (ad 4) :: rest))) : W p l e R s m args below meth c H locs cells slots Q (F0 m pc ls (.ref (ad 0) :: rest)) :=
  va_get (D := G) (ci := 0) (v := .ref (ad 4)) (C := "PlaceMoves") (T := F_PM) (N := 9) C.1 C.2.1 C.2.2.2.1 i_PM C.2.2.1 C.2.2.2.2.1 hP 0 rfl rfl 3 (by decide) (C.2.2.2.1 _ w_179) (fun _ h9 => h9) rfl hd kk
theorem gf_PM_151 (C : CX "PlaceMoves" cc p s m args c G cI cZ) (hP : va_P G clX (wX ad cI cZ σ) H) (hd : decode cc pc = .ok (.getfield 151, 3)) (kk : W p l e R s m args below meth c H locs cells slots Q (F0 m (pc + 3) ls (.int (σ 4 0) :: rest))) : W p l e R s m args below meth c H locs cells slots Q (F0 m pc ls (.ref (ad 4) :: rest)) :=
  va_getN (D := G) (ci := 4) (v := .int (σ 4 0)) (C := "PlaceMoves$Doors") (T := F_Doors) (N := 5) (host := "PlaceMoves") C.1 C.2.1 C.2.2.2.1 i_Doors C.2.2.1 C.2.2.2.2.1 hP 4 rfl rfl 4 (by decide) (va_Nw.use (w := Cond.fieldLinkNest "PlaceMoves" 151 "PlaceMoves$Doors" "size" "I" "PlaceMoves") rfl (C.2.2.2.2.2.1 ("PlaceMoves", 151, "PlaceMoves$Doors", "size", "I", "PlaceMoves") (List.mem_of_getElem? (i := 14) rfl))) (fun _ h9 => h9) rfl hd kk
theorem gf_PM_40 (C : CX "PlaceMoves" cc p s m args c G cI cZ) (hP : va_P G clX (wX ad cI cZ σ) H) (hd : decode cc pc = .ok (.getfield 40, 3)) (kk : W p l e R s m args below meth c H locs cells slots Q (F0 m (pc + 3) ls (.ref (ad 5) :: rest))) : W p l e R s m args below meth c H locs cells slots Q (F0 m pc ls (.ref (ad 0) :: rest)) :=
  va_get (D := G) (ci := 0) (v := .ref (ad 5)) (C := "PlaceMoves") (T := F_PM) (N := 9) C.1 C.2.1 C.2.2.2.1 i_PM C.2.2.1 C.2.2.2.2.1 hP 0 rfl rfl 4 (by decide) (C.2.2.2.1 _ w_180) (fun _ h9 => h9) rfl hd kk
theorem gf_PM_164 (C : CX "PlaceMoves" cc p s m args c G cI cZ) (hP : va_P G clX (wX ad cI cZ σ) H) (hd : decode cc pc = .ok (.getfield 164, 3)) (kk : W p l e R s m args below meth c H locs cells slots Q (F0 m (pc + 3) ls (.int (σ 5 0) :: rest))) : W p l e R s m args below meth c H locs cells slots Q (F0 m pc ls (.ref (ad 5) :: rest)) :=
  va_getN (D := G) (ci := 5) (v := .int (σ 5 0)) (C := "PlaceMoves$Plans") (T := F_Plans) (N := 5) (host := "PlaceMoves") C.1 C.2.1 C.2.2.2.1 i_Plans C.2.2.1 C.2.2.2.2.1 hP 5 rfl rfl 4 (by decide) (va_Nw.use (w := Cond.fieldLinkNest "PlaceMoves" 164 "PlaceMoves$Plans" "size" "I" "PlaceMoves") rfl (C.2.2.2.2.2.1 ("PlaceMoves", 164, "PlaceMoves$Plans", "size", "I", "PlaceMoves") (List.mem_of_getElem? (i := 18) rfl))) (fun _ h9 => h9) rfl hd kk
theorem gf_PM_47 (C : CX "PlaceMoves" cc p s m args c G cI cZ) (hP : va_P G clX (wX ad cI cZ σ) H) (hd : decode cc pc = .ok (.getfield 47, 3)) (kk : W p l e R s m args below meth c H locs cells slots Q (F0 m (pc + 3) ls (.ref (ad 6) :: rest))) : W p l e R s m args below meth c H locs cells slots Q (F0 m pc ls (.ref (ad 0) :: rest)) :=
  va_get (D := G) (ci := 0) (v := .ref (ad 6)) (C := "PlaceMoves") (T := F_PM) (N := 9) C.1 C.2.1 C.2.2.2.1 i_PM C.2.2.1 C.2.2.2.2.1 hP 0 rfl rfl 5 (by decide) (C.2.2.2.1 _ w_181) (fun _ h9 => h9) rfl hd kk
theorem gf_PM_183 (C : CX "PlaceMoves" cc p s m args c G cI cZ) (hP : va_P G clX (wX ad cI cZ σ) H) (hd : decode cc pc = .ok (.getfield 183, 3)) (kk : W p l e R s m args below meth c H locs cells slots Q (F0 m (pc + 3) ls (.int (σ 6 0) :: rest))) : W p l e R s m args below meth c H locs cells slots Q (F0 m pc ls (.ref (ad 6) :: rest)) :=
  va_getN (D := G) (ci := 6) (v := .int (σ 6 0)) (C := "PlaceMoves$QuietTimes") (T := F_QuietTimes) (N := 4) (host := "PlaceMoves") C.1 C.2.1 C.2.2.2.1 i_QuietTimes C.2.2.1 C.2.2.2.2.1 hP 6 rfl rfl 3 (by decide) (va_Nw.use (w := Cond.fieldLinkNest "PlaceMoves" 183 "PlaceMoves$QuietTimes" "size" "I" "PlaceMoves") rfl (C.2.2.2.2.2.1 ("PlaceMoves", 183, "PlaceMoves$QuietTimes", "size", "I", "PlaceMoves") (List.mem_of_getElem? (i := 20) rfl))) (fun _ h9 => h9) rfl hd kk
theorem gf_PM_186 (C : CX "PlaceMoves" cc p s m args c G cI cZ) (hP : va_P G clX (wX ad cI cZ σ) H) (hd : decode cc pc = .ok (.getfield 186, 3)) (kk : W p l e R s m args below meth c H locs cells slots Q (F0 m (pc + 3) ls (.int (σ 3 0) :: rest))) : W p l e R s m args below meth c H locs cells slots Q (F0 m pc ls (.ref (ad 3) :: rest)) :=
  va_getN (D := G) (ci := 3) (v := .int (σ 3 0)) (C := "PlaceMoves$Rows") (T := F_Rows) (N := 5) (host := "PlaceMoves") C.1 C.2.1 C.2.2.2.1 i_Rows C.2.2.1 C.2.2.2.2.1 hP 3 rfl rfl 4 (by decide) (va_Nw.use (w := Cond.fieldLinkNest "PlaceMoves" 186 "PlaceMoves$Rows" "total" "I" "PlaceMoves") rfl (C.2.2.2.2.2.1 ("PlaceMoves", 186, "PlaceMoves$Rows", "total", "I", "PlaceMoves") (List.mem_of_getElem? (i := 13) rfl))) (fun _ h9 => h9) rfl hd kk
theorem gf_PM_210 (C : CX "PlaceMoves" cc p s m args c G cI cZ) (hP : va_P G clX (wX ad cI cZ σ) H) (hd : decode cc pc = .ok (.getfield 210, 3)) (kk : W p l e R s m args below meth c H locs cells slots Q (F0 m (pc + 3) ls (.ref (ad 29) :: rest))) : W p l e R s m args below meth c H locs cells slots Q (F0 m pc ls (.ref (ad 6) :: rest)) :=
  va_getN (D := G) (ci := 6) (v := .ref (ad 29)) (C := "PlaceMoves$QuietTimes") (T := F_QuietTimes) (N := 4) (host := "PlaceMoves") C.1 C.2.1 C.2.2.2.1 i_QuietTimes C.2.2.1 C.2.2.2.2.1 hP 6 rfl rfl 0 (by decide) (va_Nw.use (w := Cond.fieldLinkNest "PlaceMoves" 210 "PlaceMoves$QuietTimes" "place" "[I" "PlaceMoves") rfl (C.2.2.2.2.2.1 ("PlaceMoves", 210, "PlaceMoves$QuietTimes", "place", "[I", "PlaceMoves") (List.mem_of_getElem? (i := 19) rfl))) (fun _ h9 => h9) rfl hd kk
theorem gf_PM_225 (C : CX "PlaceMoves" cc p s m args c G cI cZ) (hP : va_P G clX (wX ad cI cZ σ) H) (hd : decode cc pc = .ok (.getfield 225, 3)) (kk : W p l e R s m args below meth c H locs cells slots Q (F0 m (pc + 3) ls (.ref (ad 27) :: rest))) : W p l e R s m args below meth c H locs cells slots Q (F0 m pc ls (.ref (ad 5) :: rest)) :=
  va_getN (D := G) (ci := 5) (v := .ref (ad 27)) (C := "PlaceMoves$Plans") (T := F_Plans) (N := 5) (host := "PlaceMoves") C.1 C.2.1 C.2.2.2.1 i_Plans C.2.2.1 C.2.2.2.2.1 hP 5 rfl rfl 2 (by decide) (va_Nw.use (w := Cond.fieldLinkNest "PlaceMoves" 225 "PlaceMoves$Plans" "from" "[I" "PlaceMoves") rfl (C.2.2.2.2.2.1 ("PlaceMoves", 225, "PlaceMoves$Plans", "from", "[I", "PlaceMoves") (List.mem_of_getElem? (i := 17) rfl))) (fun _ h9 => h9) rfl hd kk
theorem gf_PM_228 (C : CX "PlaceMoves" cc p s m args c G cI cZ) (hP : va_P G clX (wX ad cI cZ σ) H) (hd : decode cc pc = .ok (.getfield 228, 3)) (kk : W p l e R s m args below meth c H locs cells slots Q (F0 m (pc + 3) ls (.ref (ad 9) :: rest))) : W p l e R s m args below meth c H locs cells slots Q (F0 m pc ls (.ref (ad 1) :: rest)) :=
  va_getN (D := G) (ci := 1) (v := .ref (ad 9)) (C := "PlaceMoves$Places") (T := F_Places) (N := 3) (host := "PlaceMoves") C.1 C.2.1 C.2.2.2.1 i_Places C.2.2.1 C.2.2.2.2.1 hP 1 rfl rfl 0 (by decide) (va_Nw.use (w := Cond.fieldLinkNest "PlaceMoves" 228 "PlaceMoves$Places" "load" "[I" "PlaceMoves") rfl (C.2.2.2.2.2.1 ("PlaceMoves", 228, "PlaceMoves$Places", "load", "[I", "PlaceMoves") (List.mem_of_getElem? (i := 0) rfl))) (fun _ h9 => h9) rfl hd kk
theorem gf_PM_55 (C : CX "PlaceMoves" cc p s m args c G cI cZ) (hP : va_P G clX (wX ad cI cZ σ) H) (hd : decode cc pc = .ok (.getfield 55, 3)) (kk : W p l e R s m args below meth c H locs cells slots Q (F0 m (pc + 3) ls (.ref (ad 8) :: rest))) : W p l e R s m args below meth c H locs cells slots Q (F0 m pc ls (.ref (ad 0) :: rest)) :=
  va_get (D := G) (ci := 0) (v := .ref (ad 8)) (C := "PlaceMoves") (T := F_PM) (N := 9) C.1 C.2.1 C.2.2.2.1 i_PM C.2.2.1 C.2.2.2.2.1 hP 0 rfl rfl 7 (by decide) (C.2.2.2.1 _ w_183) (fun _ h9 => h9) rfl hd kk
theorem gf_PM_235 (C : CX "PlaceMoves" cc p s m args c G cI cZ) (hP : va_P G clX (wX ad cI cZ σ) H) (hd : decode cc pc = .ok (.getfield 235, 3)) (kk : W p l e R s m args below meth c H locs cells slots Q (F0 m (pc + 3) ls (.ref (ad 25) :: rest))) : W p l e R s m args below meth c H locs cells slots Q (F0 m pc ls (.ref (ad 5) :: rest)) :=
  va_getN (D := G) (ci := 5) (v := .ref (ad 25)) (C := "PlaceMoves$Plans") (T := F_Plans) (N := 5) (host := "PlaceMoves") C.1 C.2.1 C.2.2.2.1 i_Plans C.2.2.1 C.2.2.2.2.1 hP 5 rfl rfl 0 (by decide) (va_Nw.use (w := Cond.fieldLinkNest "PlaceMoves" 235 "PlaceMoves$Plans" "object" "[I" "PlaceMoves") rfl (C.2.2.2.2.2.1 ("PlaceMoves", 235, "PlaceMoves$Plans", "object", "[I", "PlaceMoves") (List.mem_of_getElem? (i := 15) rfl))) (fun _ h9 => h9) rfl hd kk
theorem gf_PM_238 (C : CX "PlaceMoves" cc p s m args c G cI cZ) (hP : va_P G clX (wX ad cI cZ σ) H) (hd : decode cc pc = .ok (.getfield 238, 3)) (kk : W p l e R s m args below meth c H locs cells slots Q (F0 m (pc + 3) ls (.ref (ad 26) :: rest))) : W p l e R s m args below meth c H locs cells slots Q (F0 m pc ls (.ref (ad 5) :: rest)) :=
  va_getN (D := G) (ci := 5) (v := .ref (ad 26)) (C := "PlaceMoves$Plans") (T := F_Plans) (N := 5) (host := "PlaceMoves") C.1 C.2.1 C.2.2.2.1 i_Plans C.2.2.1 C.2.2.2.2.1 hP 5 rfl rfl 1 (by decide) (va_Nw.use (w := Cond.fieldLinkNest "PlaceMoves" 238 "PlaceMoves$Plans" "place" "[I" "PlaceMoves") rfl (C.2.2.2.2.2.1 ("PlaceMoves", 238, "PlaceMoves$Plans", "place", "[I", "PlaceMoves") (List.mem_of_getElem? (i := 16) rfl))) (fun _ h9 => h9) rfl hd kk
theorem gf_PM_239 (C : CX "PlaceMoves" cc p s m args c G cI cZ) (hP : va_P G clX (wX ad cI cZ σ) H) (hd : decode cc pc = .ok (.getfield 239, 3)) (kk : W p l e R s m args below meth c H locs cells slots Q (F0 m (pc + 3) ls (.ref (ad 14) :: rest))) : W p l e R s m args below meth c H locs cells slots Q (F0 m pc ls (.ref (ad 2) :: rest)) :=
  va_getN (D := G) (ci := 2) (v := .ref (ad 14)) (C := "PlaceMoves$Things") (T := F_Things) (N := 7) (host := "PlaceMoves") C.1 C.2.1 C.2.2.2.1 i_Things C.2.2.1 C.2.2.2.2.1 hP 2 rfl rfl 3 (by decide) (va_Nw.use (w := Cond.fieldLinkNest "PlaceMoves" 239 "PlaceMoves$Things" "grams" "[I" "PlaceMoves") rfl (C.2.2.2.2.2.1 ("PlaceMoves", 239, "PlaceMoves$Things", "grams", "[I", "PlaceMoves") (List.mem_of_getElem? (i := 5) rfl))) (fun _ h9 => h9) rfl hd kk
theorem gf_PM_242 (C : CX "PlaceMoves" cc p s m args c G cI cZ) (hP : va_P G clX (wX ad cI cZ σ) H) (hd : decode cc pc = .ok (.getfield 242, 3)) (kk : W p l e R s m args below meth c H locs cells slots Q (F0 m (pc + 3) ls (.ref (ad 11) :: rest))) : W p l e R s m args below meth c H locs cells slots Q (F0 m pc ls (.ref (ad 2) :: rest)) :=
  va_getN (D := G) (ci := 2) (v := .ref (ad 11)) (C := "PlaceMoves$Things") (T := F_Things) (N := 7) (host := "PlaceMoves") C.1 C.2.1 C.2.2.2.1 i_Things C.2.2.1 C.2.2.2.2.1 hP 2 rfl rfl 0 (by decide) (va_Nw.use (w := Cond.fieldLinkNest "PlaceMoves" 242 "PlaceMoves$Things" "least" "[I" "PlaceMoves") rfl (C.2.2.2.2.2.1 ("PlaceMoves", 242, "PlaceMoves$Things", "least", "[I", "PlaceMoves") (List.mem_of_getElem? (i := 2) rfl))) (fun _ h9 => h9) rfl hd kk
theorem gf_PM_245 (C : CX "PlaceMoves" cc p s m args c G cI cZ) (hP : va_P G clX (wX ad cI cZ σ) H) (hd : decode cc pc = .ok (.getfield 245, 3)) (kk : W p l e R s m args below meth c H locs cells slots Q (F0 m (pc + 3) ls (.ref (ad 12) :: rest))) : W p l e R s m args below meth c H locs cells slots Q (F0 m pc ls (.ref (ad 2) :: rest)) :=
  va_getN (D := G) (ci := 2) (v := .ref (ad 12)) (C := "PlaceMoves$Things") (T := F_Things) (N := 7) (host := "PlaceMoves") C.1 C.2.1 C.2.2.2.1 i_Things C.2.2.1 C.2.2.2.2.1 hP 2 rfl rfl 1 (by decide) (va_Nw.use (w := Cond.fieldLinkNest "PlaceMoves" 245 "PlaceMoves$Things" "middle" "[I" "PlaceMoves") rfl (C.2.2.2.2.2.1 ("PlaceMoves", 245, "PlaceMoves$Things", "middle", "[I", "PlaceMoves") (List.mem_of_getElem? (i := 3) rfl))) (fun _ h9 => h9) rfl hd kk
theorem gf_PM_248 (C : CX "PlaceMoves" cc p s m args c G cI cZ) (hP : va_P G clX (wX ad cI cZ σ) H) (hd : decode cc pc = .ok (.getfield 248, 3)) (kk : W p l e R s m args below meth c H locs cells slots Q (F0 m (pc + 3) ls (.ref (ad 13) :: rest))) : W p l e R s m args below meth c H locs cells slots Q (F0 m pc ls (.ref (ad 2) :: rest)) :=
  va_getN (D := G) (ci := 2) (v := .ref (ad 13)) (C := "PlaceMoves$Things") (T := F_Things) (N := 7) (host := "PlaceMoves") C.1 C.2.1 C.2.2.2.1 i_Things C.2.2.1 C.2.2.2.2.1 hP 2 rfl rfl 2 (by decide) (va_Nw.use (w := Cond.fieldLinkNest "PlaceMoves" 248 "PlaceMoves$Things" "greatest" "[I" "PlaceMoves") rfl (C.2.2.2.2.2.1 ("PlaceMoves", 248, "PlaceMoves$Things", "greatest", "[I", "PlaceMoves") (List.mem_of_getElem? (i := 4) rfl))) (fun _ h9 => h9) rfl hd kk
theorem gf_Places_18 (C : CX "PlaceMoves$Places" cc p s m args c G cI cZ) (hP : va_P G clX (wX ad cI cZ σ) H) (hd : decode cc pc = .ok (.getfield 18, 3)) (kk : W p l e R s m args below meth c H locs cells slots Q (F0 m (pc + 3) ls (.int (σ 1 0) :: rest))) : W p l e R s m args below meth c H locs cells slots Q (F0 m pc ls (.ref (ad 1) :: rest)) :=
  va_get (D := G) (ci := 1) (v := .int (σ 1 0)) (C := "PlaceMoves$Places") (T := F_Places) (N := 3) C.1 C.2.1 C.2.2.2.1 i_Places C.2.2.1 C.2.2.2.2.1 hP 1 rfl rfl 2 (by decide) (C.2.2.2.1 _ w_33) (fun _ h9 => h9) rfl hd kk
theorem gf_Places_9 (C : CX "PlaceMoves$Places" cc p s m args c G cI cZ) (hP : va_P G clX (wX ad cI cZ σ) H) (hd : decode cc pc = .ok (.getfield 9, 3)) (kk : W p l e R s m args below meth c H locs cells slots Q (F0 m (pc + 3) ls (.ref (ad 9) :: rest))) : W p l e R s m args below meth c H locs cells slots Q (F0 m pc ls (.ref (ad 1) :: rest)) :=
  va_get (D := G) (ci := 1) (v := .ref (ad 9)) (C := "PlaceMoves$Places") (T := F_Places) (N := 3) C.1 C.2.1 C.2.2.2.1 i_Places C.2.2.1 C.2.2.2.2.1 hP 1 rfl rfl 0 (by decide) (C.2.2.2.1 _ w_30) (fun _ h9 => h9) rfl hd kk
theorem gf_Places_15 (C : CX "PlaceMoves$Places" cc p s m args c G cI cZ) (hP : va_P G clX (wX ad cI cZ σ) H) (hd : decode cc pc = .ok (.getfield 15, 3)) (kk : W p l e R s m args below meth c H locs cells slots Q (F0 m (pc + 3) ls (.ref (ad 10) :: rest))) : W p l e R s m args below meth c H locs cells slots Q (F0 m pc ls (.ref (ad 1) :: rest)) :=
  va_get (D := G) (ci := 1) (v := .ref (ad 10)) (C := "PlaceMoves$Places") (T := F_Places) (N := 3) C.1 C.2.1 C.2.2.2.1 i_Places C.2.2.1 C.2.2.2.2.1 hP 1 rfl rfl 1 (by decide) (C.2.2.2.1 _ w_32) (fun _ h9 => h9) rfl hd kk
theorem gf_Things_31 (C : CX "PlaceMoves$Things" cc p s m args c G cI cZ) (hP : va_P G clX (wX ad cI cZ σ) H) (hd : decode cc pc = .ok (.getfield 31, 3)) (kk : W p l e R s m args below meth c H locs cells slots Q (F0 m (pc + 3) ls (.int (σ 2 0) :: rest))) : W p l e R s m args below meth c H locs cells slots Q (F0 m pc ls (.ref (ad 2) :: rest)) :=
  va_get (D := G) (ci := 2) (v := .int (σ 2 0)) (C := "PlaceMoves$Things") (T := F_Things) (N := 7) C.1 C.2.1 C.2.2.2.1 i_Things C.2.2.1 C.2.2.2.2.1 hP 2 rfl rfl 6 (by decide) (C.2.2.2.1 _ w_61) (fun _ h9 => h9) rfl hd kk
theorem gf_Things_9 (C : CX "PlaceMoves$Things" cc p s m args c G cI cZ) (hP : va_P G clX (wX ad cI cZ σ) H) (hd : decode cc pc = .ok (.getfield 9, 3)) (kk : W p l e R s m args below meth c H locs cells slots Q (F0 m (pc + 3) ls (.ref (ad 11) :: rest))) : W p l e R s m args below meth c H locs cells slots Q (F0 m pc ls (.ref (ad 2) :: rest)) :=
  va_get (D := G) (ci := 2) (v := .ref (ad 11)) (C := "PlaceMoves$Things") (T := F_Things) (N := 7) C.1 C.2.1 C.2.2.2.1 i_Things C.2.2.1 C.2.2.2.2.1 hP 2 rfl rfl 0 (by decide) (C.2.2.2.1 _ w_49) (fun _ h9 => h9) rfl hd kk
theorem gf_Things_18 (C : CX "PlaceMoves$Things" cc p s m args c G cI cZ) (hP : va_P G clX (wX ad cI cZ σ) H) (hd : decode cc pc = .ok (.getfield 18, 3)) (kk : W p l e R s m args below meth c H locs cells slots Q (F0 m (pc + 3) ls (.ref (ad 13) :: rest))) : W p l e R s m args below meth c H locs cells slots Q (F0 m pc ls (.ref (ad 2) :: rest)) :=
  va_get (D := G) (ci := 2) (v := .ref (ad 13)) (C := "PlaceMoves$Things") (T := F_Things) (N := 7) C.1 C.2.1 C.2.2.2.1 i_Things C.2.2.1 C.2.2.2.2.1 hP 2 rfl rfl 2 (by decide) (C.2.2.2.1 _ w_53) (fun _ h9 => h9) rfl hd kk
theorem gf_Things_15 (C : CX "PlaceMoves$Things" cc p s m args c G cI cZ) (hP : va_P G clX (wX ad cI cZ σ) H) (hd : decode cc pc = .ok (.getfield 15, 3)) (kk : W p l e R s m args below meth c H locs cells slots Q (F0 m (pc + 3) ls (.ref (ad 12) :: rest))) : W p l e R s m args below meth c H locs cells slots Q (F0 m pc ls (.ref (ad 2) :: rest)) :=
  va_get (D := G) (ci := 2) (v := .ref (ad 12)) (C := "PlaceMoves$Things") (T := F_Things) (N := 7) C.1 C.2.1 C.2.2.2.1 i_Things C.2.2.1 C.2.2.2.2.1 hP 2 rfl rfl 1 (by decide) (C.2.2.2.1 _ w_51) (fun _ h9 => h9) rfl hd kk
theorem gf_Things_21 (C : CX "PlaceMoves$Things" cc p s m args c G cI cZ) (hP : va_P G clX (wX ad cI cZ σ) H) (hd : decode cc pc = .ok (.getfield 21, 3)) (kk : W p l e R s m args below meth c H locs cells slots Q (F0 m (pc + 3) ls (.ref (ad 14) :: rest))) : W p l e R s m args below meth c H locs cells slots Q (F0 m pc ls (.ref (ad 2) :: rest)) :=
  va_get (D := G) (ci := 2) (v := .ref (ad 14)) (C := "PlaceMoves$Things") (T := F_Things) (N := 7) C.1 C.2.1 C.2.2.2.1 i_Things C.2.2.1 C.2.2.2.2.1 hP 2 rfl rfl 3 (by decide) (C.2.2.2.1 _ w_55) (fun _ h9 => h9) rfl hd kk
theorem gf_Rows_9 (C : CX "PlaceMoves$Rows" cc p s m args c G cI cZ) (hP : va_P G clX (wX ad cI cZ σ) H) (hd : decode cc pc = .ok (.getfield 9, 3)) (kk : W p l e R s m args below meth c H locs cells slots Q (F0 m (pc + 3) ls (.ref (ad 17) :: rest))) : W p l e R s m args below meth c H locs cells slots Q (F0 m pc ls (.ref (ad 3) :: rest)) :=
  va_get (D := G) (ci := 3) (v := .ref (ad 17)) (C := "PlaceMoves$Rows") (T := F_Rows) (N := 5) C.1 C.2.1 C.2.2.2.1 i_Rows C.2.2.1 C.2.2.2.2.1 hP 3 rfl rfl 0 (by decide) (C.2.2.2.1 _ w_85) (fun _ h9 => h9) rfl hd kk
theorem gf_Rows_15 (C : CX "PlaceMoves$Rows" cc p s m args c G cI cZ) (hP : va_P G clX (wX ad cI cZ σ) H) (hd : decode cc pc = .ok (.getfield 15, 3)) (kk : W p l e R s m args below meth c H locs cells slots Q (F0 m (pc + 3) ls (.ref (ad 18) :: rest))) : W p l e R s m args below meth c H locs cells slots Q (F0 m pc ls (.ref (ad 3) :: rest)) :=
  va_get (D := G) (ci := 3) (v := .ref (ad 18)) (C := "PlaceMoves$Rows") (T := F_Rows) (N := 5) C.1 C.2.1 C.2.2.2.1 i_Rows C.2.2.1 C.2.2.2.2.1 hP 3 rfl rfl 1 (by decide) (C.2.2.2.1 _ w_87) (fun _ h9 => h9) rfl hd kk
theorem gf_Rows_18 (C : CX "PlaceMoves$Rows" cc p s m args c G cI cZ) (hP : va_P G clX (wX ad cI cZ σ) H) (hd : decode cc pc = .ok (.getfield 18, 3)) (kk : W p l e R s m args below meth c H locs cells slots Q (F0 m (pc + 3) ls (.ref (ad 19) :: rest))) : W p l e R s m args below meth c H locs cells slots Q (F0 m pc ls (.ref (ad 3) :: rest)) :=
  va_get (D := G) (ci := 3) (v := .ref (ad 19)) (C := "PlaceMoves$Rows") (T := F_Rows) (N := 5) C.1 C.2.1 C.2.2.2.1 i_Rows C.2.2.1 C.2.2.2.2.1 hP 3 rfl rfl 2 (by decide) (C.2.2.2.1 _ w_89) (fun _ h9 => h9) rfl hd kk
theorem gf_Rows_21 (C : CX "PlaceMoves$Rows" cc p s m args c G cI cZ) (hP : va_P G clX (wX ad cI cZ σ) H) (hd : decode cc pc = .ok (.getfield 21, 3)) (kk : W p l e R s m args below meth c H locs cells slots Q (F0 m (pc + 3) ls (.ref (ad 20) :: rest))) : W p l e R s m args below meth c H locs cells slots Q (F0 m pc ls (.ref (ad 3) :: rest)) :=
  va_get (D := G) (ci := 3) (v := .ref (ad 20)) (C := "PlaceMoves$Rows") (T := F_Rows) (N := 5) C.1 C.2.1 C.2.2.2.1 i_Rows C.2.2.1 C.2.2.2.2.1 hP 3 rfl rfl 3 (by decide) (C.2.2.2.1 _ w_91) (fun _ h9 => h9) rfl hd kk
theorem gf_Rows_24 (C : CX "PlaceMoves$Rows" cc p s m args c G cI cZ) (hP : va_P G clX (wX ad cI cZ σ) H) (hd : decode cc pc = .ok (.getfield 24, 3)) (kk : W p l e R s m args below meth c H locs cells slots Q (F0 m (pc + 3) ls (.int (σ 3 0) :: rest))) : W p l e R s m args below meth c H locs cells slots Q (F0 m pc ls (.ref (ad 3) :: rest)) :=
  va_get (D := G) (ci := 3) (v := .int (σ 3 0)) (C := "PlaceMoves$Rows") (T := F_Rows) (N := 5) C.1 C.2.1 C.2.2.2.1 i_Rows C.2.2.1 C.2.2.2.2.1 hP 3 rfl rfl 4 (by decide) (C.2.2.2.1 _ w_93) (fun _ h9 => h9) rfl hd kk
theorem gf_Doors_24 (C : CX "PlaceMoves$Doors" cc p s m args c G cI cZ) (hP : va_P G clX (wX ad cI cZ σ) H) (hd : decode cc pc = .ok (.getfield 24, 3)) (kk : W p l e R s m args below meth c H locs cells slots Q (F0 m (pc + 3) ls (.int (σ 4 0) :: rest))) : W p l e R s m args below meth c H locs cells slots Q (F0 m pc ls (.ref (ad 4) :: rest)) :=
  va_get (D := G) (ci := 4) (v := .int (σ 4 0)) (C := "PlaceMoves$Doors") (T := F_Doors) (N := 5) C.1 C.2.1 C.2.2.2.1 i_Doors C.2.2.1 C.2.2.2.2.1 hP 4 rfl rfl 4 (by decide) (C.2.2.2.1 _ w_116) (fun _ h9 => h9) rfl hd kk
theorem gf_Doors_9 (C : CX "PlaceMoves$Doors" cc p s m args c G cI cZ) (hP : va_P G clX (wX ad cI cZ σ) H) (hd : decode cc pc = .ok (.getfield 9, 3)) (kk : W p l e R s m args below meth c H locs cells slots Q (F0 m (pc + 3) ls (.ref (ad 21) :: rest))) : W p l e R s m args below meth c H locs cells slots Q (F0 m pc ls (.ref (ad 4) :: rest)) :=
  va_get (D := G) (ci := 4) (v := .ref (ad 21)) (C := "PlaceMoves$Doors") (T := F_Doors) (N := 5) C.1 C.2.1 C.2.2.2.1 i_Doors C.2.2.1 C.2.2.2.2.1 hP 4 rfl rfl 0 (by decide) (C.2.2.2.1 _ w_112) (fun _ h9 => h9) rfl hd kk
theorem gf_Doors_15 (C : CX "PlaceMoves$Doors" cc p s m args c G cI cZ) (hP : va_P G clX (wX ad cI cZ σ) H) (hd : decode cc pc = .ok (.getfield 15, 3)) (kk : W p l e R s m args below meth c H locs cells slots Q (F0 m (pc + 3) ls (.ref (ad 22) :: rest))) : W p l e R s m args below meth c H locs cells slots Q (F0 m pc ls (.ref (ad 4) :: rest)) :=
  va_get (D := G) (ci := 4) (v := .ref (ad 22)) (C := "PlaceMoves$Doors") (T := F_Doors) (N := 5) C.1 C.2.1 C.2.2.2.1 i_Doors C.2.2.1 C.2.2.2.2.1 hP 4 rfl rfl 1 (by decide) (C.2.2.2.1 _ w_113) (fun _ h9 => h9) rfl hd kk
theorem gf_Doors_18 (C : CX "PlaceMoves$Doors" cc p s m args c G cI cZ) (hP : va_P G clX (wX ad cI cZ σ) H) (hd : decode cc pc = .ok (.getfield 18, 3)) (kk : W p l e R s m args below meth c H locs cells slots Q (F0 m (pc + 3) ls (.ref (ad 23) :: rest))) : W p l e R s m args below meth c H locs cells slots Q (F0 m pc ls (.ref (ad 4) :: rest)) :=
  va_get (D := G) (ci := 4) (v := .ref (ad 23)) (C := "PlaceMoves$Doors") (T := F_Doors) (N := 5) C.1 C.2.1 C.2.2.2.1 i_Doors C.2.2.1 C.2.2.2.2.1 hP 4 rfl rfl 2 (by decide) (C.2.2.2.1 _ w_114) (fun _ h9 => h9) rfl hd kk
theorem gf_Doors_21 (C : CX "PlaceMoves$Doors" cc p s m args c G cI cZ) (hP : va_P G clX (wX ad cI cZ σ) H) (hd : decode cc pc = .ok (.getfield 21, 3)) (kk : W p l e R s m args below meth c H locs cells slots Q (F0 m (pc + 3) ls (.ref (ad 24) :: rest))) : W p l e R s m args below meth c H locs cells slots Q (F0 m pc ls (.ref (ad 4) :: rest)) :=
  va_get (D := G) (ci := 4) (v := .ref (ad 24)) (C := "PlaceMoves$Doors") (T := F_Doors) (N := 5) C.1 C.2.1 C.2.2.2.1 i_Doors C.2.2.1 C.2.2.2.2.1 hP 4 rfl rfl 3 (by decide) (C.2.2.2.1 _ w_115) (fun _ h9 => h9) rfl hd kk
theorem gf_Plans_9 (C : CX "PlaceMoves$Plans" cc p s m args c G cI cZ) (hP : va_P G clX (wX ad cI cZ σ) H) (hd : decode cc pc = .ok (.getfield 9, 3)) (kk : W p l e R s m args below meth c H locs cells slots Q (F0 m (pc + 3) ls (.ref (ad 25) :: rest))) : W p l e R s m args below meth c H locs cells slots Q (F0 m pc ls (.ref (ad 5) :: rest)) :=
  va_get (D := G) (ci := 5) (v := .ref (ad 25)) (C := "PlaceMoves$Plans") (T := F_Plans) (N := 5) C.1 C.2.1 C.2.2.2.1 i_Plans C.2.2.1 C.2.2.2.2.1 hP 5 rfl rfl 0 (by decide) (C.2.2.2.1 _ w_135) (fun _ h9 => h9) rfl hd kk
theorem gf_Plans_24 (C : CX "PlaceMoves$Plans" cc p s m args c G cI cZ) (hP : va_P G clX (wX ad cI cZ σ) H) (hd : decode cc pc = .ok (.getfield 24, 3)) (kk : W p l e R s m args below meth c H locs cells slots Q (F0 m (pc + 3) ls (.int (σ 5 0) :: rest))) : W p l e R s m args below meth c H locs cells slots Q (F0 m pc ls (.ref (ad 5) :: rest)) :=
  va_get (D := G) (ci := 5) (v := .int (σ 5 0)) (C := "PlaceMoves$Plans") (T := F_Plans) (N := 5) C.1 C.2.1 C.2.2.2.1 i_Plans C.2.2.1 C.2.2.2.2.1 hP 5 rfl rfl 4 (by decide) (C.2.2.2.1 _ w_142) (fun _ h9 => h9) rfl hd kk
theorem gf_Plans_15 (C : CX "PlaceMoves$Plans" cc p s m args c G cI cZ) (hP : va_P G clX (wX ad cI cZ σ) H) (hd : decode cc pc = .ok (.getfield 15, 3)) (kk : W p l e R s m args below meth c H locs cells slots Q (F0 m (pc + 3) ls (.ref (ad 26) :: rest))) : W p l e R s m args below meth c H locs cells slots Q (F0 m pc ls (.ref (ad 5) :: rest)) :=
  va_get (D := G) (ci := 5) (v := .ref (ad 26)) (C := "PlaceMoves$Plans") (T := F_Plans) (N := 5) C.1 C.2.1 C.2.2.2.1 i_Plans C.2.2.1 C.2.2.2.2.1 hP 5 rfl rfl 1 (by decide) (C.2.2.2.1 _ w_137) (fun _ h9 => h9) rfl hd kk
theorem gf_Plans_18 (C : CX "PlaceMoves$Plans" cc p s m args c G cI cZ) (hP : va_P G clX (wX ad cI cZ σ) H) (hd : decode cc pc = .ok (.getfield 18, 3)) (kk : W p l e R s m args below meth c H locs cells slots Q (F0 m (pc + 3) ls (.ref (ad 27) :: rest))) : W p l e R s m args below meth c H locs cells slots Q (F0 m pc ls (.ref (ad 5) :: rest)) :=
  va_get (D := G) (ci := 5) (v := .ref (ad 27)) (C := "PlaceMoves$Plans") (T := F_Plans) (N := 5) C.1 C.2.1 C.2.2.2.1 i_Plans C.2.2.1 C.2.2.2.2.1 hP 5 rfl rfl 2 (by decide) (C.2.2.2.1 _ w_139) (fun _ h9 => h9) rfl hd kk
theorem gf_Plans_21 (C : CX "PlaceMoves$Plans" cc p s m args c G cI cZ) (hP : va_P G clX (wX ad cI cZ σ) H) (hd : decode cc pc = .ok (.getfield 21, 3)) (kk : W p l e R s m args below meth c H locs cells slots Q (F0 m (pc + 3) ls (.ref (ad 28) :: rest))) : W p l e R s m args below meth c H locs cells slots Q (F0 m pc ls (.ref (ad 5) :: rest)) :=
  va_get (D := G) (ci := 5) (v := .ref (ad 28)) (C := "PlaceMoves$Plans") (T := F_Plans) (N := 5) C.1 C.2.1 C.2.2.2.1 i_Plans C.2.2.1 C.2.2.2.2.1 hP 5 rfl rfl 3 (by decide) (C.2.2.2.1 _ w_141) (fun _ h9 => h9) rfl hd kk
theorem gf_QuietTimes_9 (C : CX "PlaceMoves$QuietTimes" cc p s m args c G cI cZ) (hP : va_P G clX (wX ad cI cZ σ) H) (hd : decode cc pc = .ok (.getfield 9, 3)) (kk : W p l e R s m args below meth c H locs cells slots Q (F0 m (pc + 3) ls (.ref (ad 29) :: rest))) : W p l e R s m args below meth c H locs cells slots Q (F0 m pc ls (.ref (ad 6) :: rest)) :=
  va_get (D := G) (ci := 6) (v := .ref (ad 29)) (C := "PlaceMoves$QuietTimes") (T := F_QuietTimes) (N := 4) C.1 C.2.1 C.2.2.2.1 i_QuietTimes C.2.2.1 C.2.2.2.2.1 hP 6 rfl rfl 0 (by decide) (C.2.2.2.1 _ w_161) (fun _ h9 => h9) rfl hd kk
theorem gf_QuietTimes_21 (C : CX "PlaceMoves$QuietTimes" cc p s m args c G cI cZ) (hP : va_P G clX (wX ad cI cZ σ) H) (hd : decode cc pc = .ok (.getfield 21, 3)) (kk : W p l e R s m args below meth c H locs cells slots Q (F0 m (pc + 3) ls (.int (σ 6 0) :: rest))) : W p l e R s m args below meth c H locs cells slots Q (F0 m pc ls (.ref (ad 6) :: rest)) :=
  va_get (D := G) (ci := 6) (v := .int (σ 6 0)) (C := "PlaceMoves$QuietTimes") (T := F_QuietTimes) (N := 4) C.1 C.2.1 C.2.2.2.1 i_QuietTimes C.2.2.1 C.2.2.2.2.1 hP 6 rfl rfl 3 (by decide) (C.2.2.2.1 _ w_165) (fun _ h9 => h9) rfl hd kk
theorem gf_QuietTimes_15 (C : CX "PlaceMoves$QuietTimes" cc p s m args c G cI cZ) (hP : va_P G clX (wX ad cI cZ σ) H) (hd : decode cc pc = .ok (.getfield 15, 3)) (kk : W p l e R s m args below meth c H locs cells slots Q (F0 m (pc + 3) ls (.ref (ad 30) :: rest))) : W p l e R s m args below meth c H locs cells slots Q (F0 m pc ls (.ref (ad 6) :: rest)) :=
  va_get (D := G) (ci := 6) (v := .ref (ad 30)) (C := "PlaceMoves$QuietTimes") (T := F_QuietTimes) (N := 4) C.1 C.2.1 C.2.2.2.1 i_QuietTimes C.2.2.1 C.2.2.2.2.1 hP 6 rfl rfl 1 (by decide) (C.2.2.2.1 _ w_163) (fun _ h9 => h9) rfl hd kk
theorem gf_QuietTimes_18 (C : CX "PlaceMoves$QuietTimes" cc p s m args c G cI cZ) (hP : va_P G clX (wX ad cI cZ σ) H) (hd : decode cc pc = .ok (.getfield 18, 3)) (kk : W p l e R s m args below meth c H locs cells slots Q (F0 m (pc + 3) ls (.ref (ad 31) :: rest))) : W p l e R s m args below meth c H locs cells slots Q (F0 m pc ls (.ref (ad 6) :: rest)) :=
  va_get (D := G) (ci := 6) (v := .ref (ad 31)) (C := "PlaceMoves$QuietTimes") (T := F_QuietTimes) (N := 4) C.1 C.2.1 C.2.2.2.1 i_QuietTimes C.2.2.1 C.2.2.2.2.1 hP 6 rfl rfl 2 (by decide) (C.2.2.2.1 _ w_164) (fun _ h9 => h9) rfl hd kk
end RX
end
section
def f_Places_around (σ : Sg) (x1 : Int32) : Option (Int32) :=
  if x1 < 0 then (some 0) else (if x1 < (σ 1 0) then (gd (inB x1 24) <| some (σ 10 (Int32.toNatClampNeg x1))) else (some 0))
def f_Rows_index (σ : Sg) (x0 : Int32) (x1 : Int32) : Option (Int32) :=
  some ((x0 * 40) + x1)
def B_Rows_held_9 (σ : Sg)  (k9 : Int32 → Int32 → Int32 → Option (Int32)) (x1 : Int32) (x2 : Int32) (x3 : Int32) : Option (Int32) :=
  if x3 < 0 then (some ((-1))) else ((f_Rows_index σ x1 x3).bind fun r1 => gd (inB r1 800) <| if x2 < (σ 18 (Int32.toNatClampNeg r1)) then (k9 x1 x2 (x3 + (-1))) else (some r1))
def L_Rows_held_9 (σ : Sg)  : Nat → Int32 → Int32 → Int32 → Option (Int32) := itr (B_Rows_held_9 σ) (fun _ _ _ => none)
def f_Rows_held (σ : Sg) (x1 : Int32) (x2 : Int32) : Option (Int32) :=
  gd (inB x1 20) <| L_Rows_held_9 σ fuel x1 x2 ((σ 17 (Int32.toNatClampNeg x1)) - 1)
def B_PM_placeAt_5 (σ : Sg)  (k5 : Int32 → Int32 → Int32 → Option (Int32)) (x2 : Int32) (x3 : Int32) (x4 : Int32) : Option (Int32) :=
  if 20 ≤ x4 then (some ((-1))) else ((f_Rows_held σ x3 x2).bind fun r1 => if r1 = ((-1)) then (some ((-1))) else (gd (inB r1 800) <| if (σ 19 (Int32.toNatClampNeg r1)) = 2 then (some ((-1))) else (gd (inB r1 800) <| if (σ 19 (Int32.toNatClampNeg r1)) = 0 then (gd (inB r1 800) <| some (σ 20 (Int32.toNatClampNeg r1))) else (gd (inB r1 800) <| lt1 (σ 20 (Int32.toNatClampNeg r1)) fun y2 => k5 x2 y2 (x4 + 1)))))
def L_PM_placeAt_5 (σ : Sg)  : Nat → Int32 → Int32 → Int32 → Option (Int32) := itr (B_PM_placeAt_5 σ) (fun _ _ _ => none)
def f_PM_placeAt (σ : Sg) (x1 : Int32) (x2 : Int32) : Option (Int32) :=
  L_PM_placeAt_5 σ fuel x2 x1 0
def f_QuietTimes_covers (σ : Sg) (x1 : Int32) (x2 : Int32) : Option (Int32) :=
  gd (inB x1 20) <| if x2 < (σ 30 (Int32.toNatClampNeg x1)) then (some 0) else (gd (inB x1 20) <| if (σ 31 (Int32.toNatClampNeg x1)) < x2 then (some 0) else (some 1))
def f_Places_liesIn (σ : Sg) (x1 : Int32) (x2 : Int32) : Option (Int32) :=
  (f_Places_around σ x1).bind fun r1 => if ((ush r1 x2) &&& 1) = 1 then (some 1) else (some 0)
def B_PM_isBarred_3 (σ : Sg)  (k3 : Int32 → Int32 → Int32 → Int32 → Option (Int32)) (x1 : Int32) (x2 : Int32) (x3 : Int32) (x4 : Int32) : Option (Int32) :=
  if (σ 6 0) ≤ x4 then (some 0) else (gd (inB x4 20) <| lt1 (σ 29 (Int32.toNatClampNeg x4)) fun y1 => (f_QuietTimes_covers σ x4 x3).bind fun r2 => if r2 = 0 then (k3 x1 x2 x3 (x4 + 1)) else ((f_Places_liesIn σ x1 y1).bind fun r3 => (f_Places_liesIn σ x2 y1).bind fun r4 => if r3 = r4 then (k3 x1 x2 x3 (x4 + 1)) else (some 1)))
def L_PM_isBarred_3 (σ : Sg)  : Nat → Int32 → Int32 → Int32 → Int32 → Option (Int32) := itr (B_PM_isBarred_3 σ) (fun _ _ _ _ => none)
def f_PM_isBarred (σ : Sg) (x1 : Int32) (x2 : Int32) (x3 : Int32) : Option (Int32) :=
  L_PM_isBarred_3 σ fuel x1 x2 x3 0
def f_Plans_covers (σ : Sg) (x1 : Int32) (x2 : Int32) : Option (Int32) :=
  gd (inB x1 30) <| if x2 < (σ 27 (Int32.toNatClampNeg x1)) then (some 0) else (gd (inB x1 30) <| if (σ 28 (Int32.toNatClampNeg x1)) < x2 then (some 0) else (some 1))
def B_PM_weightOf_4 (σ : Sg)  (k4 : Int32 → Int32 → Int32 → Option (Int32)) (x1 : Int32) (x2 : Int32) (x3 : Int32) : Option (Int32) :=
  if (σ 2 0) ≤ x3 then (some x2) else (gd (inB x3 20) <| if ((ush (σ 8 (Int32.toNatClampNeg x3)) x1) &&& 1) = 1 then (gd (inB x3 20) <| lt1 (x2 + (σ 14 (Int32.toNatClampNeg x3))) fun y1 => k4 x1 y1 (x3 + 1)) else (k4 x1 x2 (x3 + 1)))
def L_PM_weightOf_4 (σ : Sg)  : Nat → Int32 → Int32 → Int32 → Option (Int32) := itr (B_PM_weightOf_4 σ) (fun _ _ _ => none)
def f_PM_weightOf (σ : Sg) (x1 : Int32) : Option (Int32) :=
  L_PM_weightOf_4 σ fuel x1 0 0
def B_PM_isWithin_6 (σ : Sg)  (k6 : Int32 → Int32 → Int32 → Int32 → Option (Int32)) (x2 : Int32) (x3 : Int32) (x4 : Int32) (x5 : Int32) : Option (Int32) :=
  if 20 ≤ x5 then (some 0) else ((f_Rows_held σ x4 x3).bind fun r1 => if r1 = ((-1)) then (some 0) else (gd (inB r1 800) <| if (σ 19 (Int32.toNatClampNeg r1)) = 1 then (gd (inB r1 800) <| lt1 (σ 20 (Int32.toNatClampNeg r1)) fun y2 => if y2 = x2 then (some 1) else (k6 x2 x3 y2 (x5 + 1))) else (some 0)))
def L_PM_isWithin_6 (σ : Sg)  : Nat → Int32 → Int32 → Int32 → Int32 → Option (Int32) := itr (B_PM_isWithin_6 σ) (fun _ _ _ _ => none)
def f_PM_isWithin (σ : Sg) (x1 : Int32) (x2 : Int32) (x3 : Int32) : Option (Int32) :=
  L_PM_isWithin_6 σ fuel x2 x3 x1 0
def f_Things_isSmaller (σ : Sg) (x1 : Int32) (x2 : Int32) : Option (Int32) :=
  gd (inB x1 20) <| gd (inB x2 20) <| if (σ 11 (Int32.toNatClampNeg x2)) ≤ (σ 11 (Int32.toNatClampNeg x1)) then (some 0) else (gd (inB x1 20) <| gd (inB x2 20) <| if (σ 12 (Int32.toNatClampNeg x2)) ≤ (σ 12 (Int32.toNatClampNeg x1)) then (some 0) else (gd (inB x1 20) <| gd (inB x2 20) <| if (σ 13 (Int32.toNatClampNeg x2)) ≤ (σ 13 (Int32.toNatClampNeg x1)) then (some 0) else (some 1)))
def B_PM_standsSince_8 (σ : Sg)  (k8 : Int32 → Int32 → Int32 → Int32 → Option (Int32)) (x2 : Int32) (x3 : Int32) (x4 : Int32) (x5 : Int32) : Option (Int32) :=
  if 20 ≤ x5 then (some x3) else ((f_Rows_held σ x4 x2).bind fun r1 => if r1 = ((-1)) then (some x3) else (gd (inB r1 800) <| lt1 (if x3 < (σ 18 (Int32.toNatClampNeg r1)) then σ 18 (Int32.toNatClampNeg r1) else x3) fun y2 => gd (inB r1 800) <| if (σ 19 (Int32.toNatClampNeg r1)) = 1 then (gd (inB r1 800) <| lt1 (σ 20 (Int32.toNatClampNeg r1)) fun y3 => k8 x2 y2 y3 (x5 + 1)) else (some y2)))
def L_PM_standsSince_8 (σ : Sg)  : Nat → Int32 → Int32 → Int32 → Int32 → Option (Int32) := itr (B_PM_standsSince_8 σ) (fun _ _ _ _ => none)
def f_PM_standsSince (σ : Sg) (x1 : Int32) (x2 : Int32) : Option (Int32) :=
  L_PM_standsSince_8 σ fuel x2 ((-1)) x1 0
def f_Doors_goesTurned (σ : Sg) (x0 : Int64) (x2 : Int64) (x4 : Int64) (x6 : Int64) : Option (Int32) :=
  lt1 ((x0 + x2) * (x4 - x6)) fun y1 => lt1 ((x0 - x2) * (x4 + x6)) fun y2 => lt1 ((x4 * x4) - (x6 * x6)) fun y3 => if (lg_cmp ((y1 * y1) + (y2 * y2)) ((2 * y3) * y3)) < 0 then (some 0) else (some 1)
def f_Doors_letsThrough (σ : Sg) (x1 : Int32) (x2 : Int32) (x3 : Int32) : Option (Int32) :=
  gd (inB x1 40) <| if x3 ≤ (σ 24 (Int32.toNatClampNeg x1)) then (gd (inB x1 40) <| if x2 ≤ (σ 23 (Int32.toNatClampNeg x1)) then (some 1) else (gd (inB x1 40) <| gd (inB x1 40) <| (f_Doors_goesTurned σ (Int32.toInt64 (σ 23 (Int32.toNatClampNeg x1))) (Int32.toInt64 (σ 24 (Int32.toNatClampNeg x1))) (Int32.toInt64 x2) (Int32.toInt64 x3)).bind fun r1 => if r1 = 0 then (some 0) else (some 1))) else (some 0)
def f_PM_fits (σ : Sg) (x1 : Int32) (x2 : Int32) : Option (Int32) :=
  gd (inB x1 20) <| lt1 (σ 11 (Int32.toNatClampNeg x1)) fun y1 => gd (inB x1 20) <| lt1 (σ 12 (Int32.toNatClampNeg x1)) fun y2 => gd (inB x1 20) <| lt1 (σ 13 (Int32.toNatClampNeg x1)) fun y3 => (f_Doors_letsThrough σ x2 y2 y1).bind fun r4 => if r4 = 0 then ((f_Doors_letsThrough σ x2 y3 y1).bind fun r5 => if r5 = 0 then ((f_Doors_letsThrough σ x2 y3 y2).bind fun r6 => if r6 = 0 then (some 0) else (some 1)) else (some 1)) else (some 1)
def B_PM_fittingDoors_5 (σ : Sg)  (k5 : Int32 → Int64 → Int32 → Option (Int64)) (x1 : Int32) (x2 : Int64) (x4 : Int32) : Option (Int64) :=
  if (σ 4 0) ≤ x4 then (some x2) else ((f_PM_fits σ x1 x4).bind fun r1 => if r1 = 0 then (k5 x1 x2 (x4 + 1)) else (lt1 (x2 ||| (1 <<< (Int32.toInt64 x4 &&& 63))) fun y2 => k5 x1 y2 (x4 + 1)))
def L_PM_fittingDoors_5 (σ : Sg)  : Nat → Int32 → Int64 → Int32 → Option (Int64) := itr (B_PM_fittingDoors_5 σ) (fun _ _ _ => none)
def f_PM_fittingDoors (σ : Sg) (x1 : Int32) : Option (Int64) :=
  L_PM_fittingDoors_5 σ fuel x1 0 0
def B_Doors_spread_6 (σ : Sg)  (k6 : Int32 → Int64 → Int32 → Int32 → Option (Int32)) (x1 : Int32) (x2 : Int64) (x4 : Int32) (x5 : Int32) : Option (Int32) :=
  if (σ 4 0) ≤ x5 then (some x4) else (gd (inB x5 40) <| gd (inB x5 40) <| lt1 ((1 <<< ((σ 21 (Int32.toNatClampNeg x5)) &&& 31)) ||| (1 <<< ((σ 22 (Int32.toNatClampNeg x5)) &&& 31))) fun y1 => if (lg_cmp ((lush x2 x5) &&& 1) 1) = 0 then (if (x1 &&& y1) = 0 then (k6 x1 x2 x4 (x5 + 1)) else (k6 x1 x2 (x4 ||| y1) (x5 + 1))) else (k6 x1 x2 x4 (x5 + 1)))
def L_Doors_spread_6 (σ : Sg)  : Nat → Int32 → Int64 → Int32 → Int32 → Option (Int32) := itr (B_Doors_spread_6 σ) (fun _ _ _ _ => none)
def f_Doors_spread (σ : Sg) (x1 : Int32) (x2 : Int64) : Option (Int32) :=
  L_Doors_spread_6 σ fuel x1 x2 x1 0
def B_PM_doorsBetween_8 (σ : Sg)  (k8 : Int32 → Int64 → Int32 → Int32 → Option (Int32)) (x2 : Int32) (x3 : Int64) (x5 : Int32) (x6 : Int32) : Option (Int32) :=
  if 24 ≤ x6 then (some ((-1))) else (if ((ush x5 x2) &&& 1) = 1 then (some x6) else ((f_Doors_spread σ x5 x3).bind fun r2 => if r2 = x5 then (some ((-1))) else (k8 x2 x3 r2 (x6 + 1))))
def L_PM_doorsBetween_8 (σ : Sg)  : Nat → Int32 → Int64 → Int32 → Int32 → Option (Int32) := itr (B_PM_doorsBetween_8 σ) (fun _ _ _ _ => none)
def f_PM_doorsBetween (σ : Sg) (x1 : Int32) (x2 : Int32) (x3 : Int64) : Option (Int32) :=
  lt1 (1 <<< (x1 &&& 31)) fun y1 => L_PM_doorsBetween_8 σ fuel x2 x3 y1 0
end
section
section RM
variable {p : Program} {l : Launch} {e : Env} {R : Room} {s : State} {m : MethodId} {args : Array Value} {below : List Frame} {meth : Method} {c : Code} {H : Heap} {locs : List Loc} {cells slots : Nat} {Q : State → Prop}
variable {cc : ByteArray} {pc : Nat} {ls : Array Slot} {rest : List Value} {G : va_G} {ad : Nat → Nat} {cI cZ : ClassId} {σ : Sg} {own : String}
theorem mm_PM_205 (C : CX "PlaceMoves" cc p s m args c G cI cZ) (hml : c.maxLocals = ls.size) {x y : Int32} (hR : 1 ≤ R.frames ∧ 21 ≤ R.locals) (hrest : (rest.map fun v => v.category).sum ≤ 8) (hd : decode cc pc = .ok (.invokestatic 205, 3)) (hcs : cells ≤ R.cells ∧ slots ≤ R.slots) (kk : W p l e R s m args below meth c H locs cells slots Q (F0 m (pc + 3) ls (.int (if x < y then y else x) :: rest))) : W p l e R s m args below meth c H locs cells slots Q (F0 m pc ls (.int y :: .int x :: rest)) :=
  va_mmax C.1 C.2.1 hml C.2.2.1 (C.2.2.2.1 _ w_491) (C.2.2.2.1 _ w_352) (C.2.2.2.1 _ w_15) (C.2.2.2.1 _ w_353) hR.1 (by omega) hcs.1 hcs.2 hd kk
theorem mm_Doors_28 (C : CX "PlaceMoves$Doors" cc p s m args c G cI cZ) (hml : c.maxLocals = ls.size) {x y : Int32} (hR : 1 ≤ R.frames ∧ 21 ≤ R.locals) (hrest : (rest.map fun v => v.category).sum ≤ 8) (hd : decode cc pc = .ok (.invokestatic 28, 3)) (hcs : cells ≤ R.cells ∧ slots ≤ R.slots) (kk : W p l e R s m args below meth c H locs cells slots Q (F0 m (pc + 3) ls (.int (if x < y then y else x) :: rest))) : W p l e R s m args below meth c H locs cells slots Q (F0 m pc ls (.int y :: .int x :: rest)) :=
  va_mmax C.1 C.2.1 hml C.2.2.1 (C.2.2.2.1 _ w_512) (C.2.2.2.1 _ w_352) (C.2.2.2.1 _ w_15) (C.2.2.2.1 _ w_353) hR.1 (by omega) hcs.1 hcs.2 hd kk
theorem mm_Doors_34 (C : CX "PlaceMoves$Doors" cc p s m args c G cI cZ) (hml : c.maxLocals = ls.size) {x y : Int32} (hR : 1 ≤ R.frames ∧ 21 ≤ R.locals) (hrest : (rest.map fun v => v.category).sum ≤ 8) (hd : decode cc pc = .ok (.invokestatic 34, 3)) (hcs : cells ≤ R.cells ∧ slots ≤ R.slots) (kk : W p l e R s m args below meth c H locs cells slots Q (F0 m (pc + 3) ls (.int (if y < x then y else x) :: rest))) : W p l e R s m args below meth c H locs cells slots Q (F0 m pc ls (.int y :: .int x :: rest)) :=
  va_mmin C.1 C.2.1 hml C.2.2.1 (C.2.2.2.1 _ w_513) (C.2.2.2.1 _ w_349) (C.2.2.2.1 _ w_15) (C.2.2.2.1 _ w_350) hR.1 (by omega) hcs.1 hcs.2 hd kk
theorem mm_Things_35 (C : CX "PlaceMoves$Things" cc p s m args c G cI cZ) (hml : c.maxLocals = ls.size) {x y : Int32} (hR : 1 ≤ R.frames ∧ 21 ≤ R.locals) (hrest : (rest.map fun v => v.category).sum ≤ 8) (hd : decode cc pc = .ok (.invokestatic 35, 3)) (hcs : cells ≤ R.cells ∧ slots ≤ R.slots) (kk : W p l e R s m args below meth c H locs cells slots Q (F0 m (pc + 3) ls (.int (if y < x then y else x) :: rest))) : W p l e R s m args below meth c H locs cells slots Q (F0 m pc ls (.int y :: .int x :: rest)) :=
  va_mmin C.1 C.2.1 hml C.2.2.1 (C.2.2.2.1 _ w_348) (C.2.2.2.1 _ w_349) (C.2.2.2.1 _ w_15) (C.2.2.2.1 _ w_350) hR.1 (by omega) hcs.1 hcs.2 hd kk
theorem mm_Things_41 (C : CX "PlaceMoves$Things" cc p s m args c G cI cZ) (hml : c.maxLocals = ls.size) {x y : Int32} (hR : 1 ≤ R.frames ∧ 21 ≤ R.locals) (hrest : (rest.map fun v => v.category).sum ≤ 8) (hd : decode cc pc = .ok (.invokestatic 41, 3)) (hcs : cells ≤ R.cells ∧ slots ≤ R.slots) (kk : W p l e R s m args below meth c H locs cells slots Q (F0 m (pc + 3) ls (.int (if x < y then y else x) :: rest))) : W p l e R s m args below meth c H locs cells slots Q (F0 m pc ls (.int y :: .int x :: rest)) :=
  va_mmax C.1 C.2.1 hml C.2.2.1 (C.2.2.2.1 _ w_351) (C.2.2.2.1 _ w_352) (C.2.2.2.1 _ w_15) (C.2.2.2.1 _ w_353) hR.1 (by omega) hcs.1 hcs.2 hd kk
end RM
end
section
abbrev wl_Places_around : List Cond := .code ⟨"PlaceMoves$Places", "around", "(I)I"⟩ prog_3_method_3_code 2 (some FieldType.int) :: WG
set_option maxHeartbeats 4000000 in
set_option maxRecDepth 100000 in
theorem c_Places_around (l : Launch) (G : va_G) (ad : Nat → Nat) (cI cZ : ClassId) (σ : Sg) (a1 : Int32) (out : Int32) (h : f_Places_around σ a1 = some out) : Met l ⟨"PlaceMoves$Places", "around", "(I)I"⟩ wl_Places_around ({ frames := 0, cells := 0, slots := 0, locals := 0 } : Room) (PcX G ad cI cZ σ [.ref (ad 1), .int a1]) (vp_Si (fun r => r = out)) 0 0 (fun _ => False) := by
  refine Met.ofW (cc := prog_3_method_3_code) (maxL := 2) (ret := (some FieldType.int)) (by decide) rfl ?_
  intro p e s m args below meth c s₁ B hml hv
  obtain ⟨rfl, hP, hK⟩ := hv
  have hx := B.exec
  have hb := B.bytes
  have hr := B.returns
  have hts0 := atoms_spec (ws := wl_Places_around) B.pre
  have hts : ∀ w ∈ WG, w.before _ s = true := fun w hw => hts0 w (List.mem_cons_of_mem _ hw)
  have hown : s.vm.findClass "PlaceMoves$Places" = some m.cls := findClass_of_methodNamed B.named
  have hlocks := B.notSynchronized
  have C : CX "PlaceMoves$Places" prog_3_method_3_code p s m _ c G cI cZ := ⟨hx, hb, hown, hts, hK⟩
  have hl := lv_entry ([.ref (ad 1), .int a1]) (n := 2) (Nat.le_of_ble_eq_true rfl)
  rw [lg_entry_eq]
  generalize (lg_sl ([.ref (ad 1), .int a1]) ++ List.replicate (2 - (lg_sl ([.ref (ad 1), .int a1])).length) Slot.unset).toArray = ls at hl ⊢
  have hl : lv_has ls 2 [(0, .ref (ad 1)), (1, .int a1)] := hl
  unfold f_Places_around at h
  refine lv_iload_n hx hb d_Places_around_0 rfl (lv_at hl 1 rfl) ?_
  refine lv_if_lt (tgt := 12) hx hb d_Places_around_1 (by decide) (fun c1 => ?_) (fun c1 => ?_)
  · rw [if_pos c1] at h
    refine lv_iconst (v := 0) hx hb d_Places_around_12 (by decide) ?_
    refine lv_goto (tgt := 22) hx hb d_Places_around_13 (by decide) ?_
    exact W.iret hx hb hr (fun t ht _ => ⟨_, rfl, Option.some.inj h, ht⟩) (fun _ hq => nomatch hq) d_Places_around_22
  · rw [if_neg c1] at h
    refine lv_iload_n hx hb d_Places_around_4 rfl (lv_at hl 1 rfl) ?_
    refine lv_aload_n hx hb d_Places_around_5 rfl (lv_at hl 0 rfl) ?_
    refine gf_Places_18 C hP d_Places_around_6 ?_
    refine lv_icmp_lt (tgt := 16) hx hb d_Places_around_9 (by decide) (fun c2 => ?_) (fun c2 => ?_)
    · rw [if_pos c2] at h
      refine lv_aload_n hx hb d_Places_around_16 rfl (lv_at hl 0 rfl) ?_
      refine gf_Places_15 C hP d_Places_around_17 ?_
      refine lv_iload_n hx hb d_Places_around_20 rfl (lv_at hl 1 rfl) ?_
      obtain ⟨hin, h⟩ := gd_some h
      refine al_10 C hP hin d_Places_around_21 ?_
      exact W.iret hx hb hr (fun t ht _ => ⟨_, rfl, Option.some.inj h, ht⟩) (fun _ hq => nomatch hq) d_Places_around_22
    · rw [if_neg c2] at h
      refine lv_iconst (v := 0) hx hb d_Places_around_12 (by decide) ?_
      refine lv_goto (tgt := 22) hx hb d_Places_around_13 (by decide) ?_
      exact W.iret hx hb hr (fun t ht _ => ⟨_, rfl, Option.some.inj h, ht⟩) (fun _ hq => nomatch hq) d_Places_around_22
section RC
variable {p : Program} {l : Launch} {e : Env} {R : Room} {s : State} {m : MethodId} {args : Array Value} {below : List Frame} {meth : Method} {c : Code} {H : Heap} {locs : List Loc} {cells slots : Nat} {Q : State → Prop}
variable {cc : ByteArray} {pc : Nat} {ls : Array Slot} {rest : List Value} {G : va_G} {ad : Nat → Nat} {cI cZ : ClassId} {σ : Sg} {own : String}
theorem cl_PM_231 (C : CX "PlaceMoves" cc p s m args c G cI cZ) (hml : c.maxLocals = ls.size) (hP : va_P G clX (wX ad cI cZ σ) H) {x1 : Int32} {r : Int32} (hg : f_Places_around σ x1 = some r) (hR : 0 + 1 ≤ R.frames ∧ 8 + (2 + 11) + 0 ≤ R.locals) (hrest : (rest.map fun v => v.category).sum ≤ 8) (hd : decode cc pc = .ok (.invokevirtual 231, 3)) (hcs : cells + 0 ≤ R.cells ∧ slots + 0 ≤ R.slots) (kk : W p l e R s m args below meth c H locs cells slots Q (F0 m (pc + 3) ls (.int r :: rest))) : W p l e R s m args below meth c H locs cells slots Q (F0 m pc ls (.int x1 :: .ref (ad 1) :: rest)) :=
  vp_callSi (W.runV (As := [.int x1]) (rest := rest) ⟨C.1, C.2.1, hml, C.2.2.1, C.2.2.2.1⟩ (c_Places_around l G ad cI cZ σ x1 r hg) (cwV 1 C.2.2.2.1 (wg_V w_438 w_333 w_334 w_2 w_335) rfl rfl rfl (by decide +kernel) hR) ⟨PcX.blind, va_recv C.2.2.2.2.1 hP (ci := 1) (q0 := 1) rfl rfl, fun U hU hW => ⟨rfl, by rw [hU]; exact hP, C.2.2.2.2.warm hW⟩⟩ rfl rfl rfl rfl (lv_room hrest) hd hcs) (fun r' e => by subst e; exact kk)
theorem cl_Places_22 (C : CX "PlaceMoves$Places" cc p s m args c G cI cZ) (hml : c.maxLocals = ls.size) (hP : va_P G clX (wX ad cI cZ σ) H) {x1 : Int32} {r : Int32} (hg : f_Places_around σ x1 = some r) (hR : 0 + 1 ≤ R.frames ∧ 8 + (2 + 11) + 0 ≤ R.locals) (hrest : (rest.map fun v => v.category).sum ≤ 8) (hd : decode cc pc = .ok (.invokevirtual 22, 3)) (hcs : cells + 0 ≤ R.cells ∧ slots + 0 ≤ R.slots) (kk : W p l e R s m args below meth c H locs cells slots Q (F0 m (pc + 3) ls (.int r :: rest))) : W p l e R s m args below meth c H locs cells slots Q (F0 m pc ls (.int x1 :: .ref (ad 1) :: rest)) :=
  vp_callSi (W.runV (As := [.int x1]) (rest := rest) ⟨C.1, C.2.1, hml, C.2.2.1, C.2.2.2.1⟩ (c_Places_around l G ad cI cZ σ x1 r hg) (cwV 1 C.2.2.2.1 (wg_V w_332 w_333 w_334 w_2 w_335) rfl rfl rfl (by decide +kernel) hR) ⟨PcX.blind, va_recv C.2.2.2.2.1 hP (ci := 1) (q0 := 1) rfl rfl, fun U hU hW => ⟨rfl, by rw [hU]; exact hP, C.2.2.2.2.warm hW⟩⟩ rfl rfl rfl rfl (lv_room hrest) hd hcs) (fun r' e => by subst e; exact kk)
end RC
abbrev wl_Rows_index : List Cond := .code ⟨"PlaceMoves$Rows", "index", "(II)I"⟩ prog_6_method_2_code 2 (some FieldType.int) :: WG
set_option maxHeartbeats 4000000 in
set_option maxRecDepth 100000 in
theorem c_Rows_index (l : Launch) (G : va_G) (ad : Nat → Nat) (cI cZ : ClassId) (σ : Sg) (a0 : Int32) (a1 : Int32) (out : Int32) (h : f_Rows_index σ a0 a1 = some out) : Met l ⟨"PlaceMoves$Rows", "index", "(II)I"⟩ wl_Rows_index ({ frames := 0, cells := 0, slots := 0, locals := 0 } : Room) (PcX G ad cI cZ σ [.int a0, .int a1]) (vp_Si (fun r => r = out)) 0 0 (fun _ => False) := by
  refine Met.ofW (cc := prog_6_method_2_code) (maxL := 2) (ret := (some FieldType.int)) (by decide) rfl ?_
  intro p e s m args below meth c s₁ B hml hv
  obtain ⟨rfl, hP, hK⟩ := hv
  have hx := B.exec
  have hb := B.bytes
  have hr := B.returns
  have hts0 := atoms_spec (ws := wl_Rows_index) B.pre
  have hts : ∀ w ∈ WG, w.before _ s = true := fun w hw => hts0 w (List.mem_cons_of_mem _ hw)
  have hown : s.vm.findClass "PlaceMoves$Rows" = some m.cls := findClass_of_methodNamed B.named
  have hlocks := B.notSynchronized
  have C : CX "PlaceMoves$Rows" prog_6_method_2_code p s m _ c G cI cZ := ⟨hx, hb, hown, hts, hK⟩
  have hl := lv_entry ([.int a0, .int a1]) (n := 2) (Nat.le_of_ble_eq_true rfl)
  rw [lg_entry_eq]
  generalize (lg_sl ([.int a0, .int a1]) ++ List.replicate (2 - (lg_sl ([.int a0, .int a1])).length) Slot.unset).toArray = ls at hl ⊢
  have hl : lv_has ls 2 [(0, .int a0), (1, .int a1)] := hl
  unfold f_Rows_index at h
  refine lv_iload_n hx hb d_Rows_index_0 rfl (lv_at hl 0 rfl) ?_
  refine lv_bipush (v := 40) hx hb d_Rows_index_1 (by decide) ?_
  refine lv_imul hx hb d_Rows_index_3 ?_
  refine lv_iload_n hx hb d_Rows_index_4 rfl (lv_at hl 1 rfl) ?_
  refine lv_iadd hx hb d_Rows_index_5 ?_
  exact W.iret hx hb hr (fun t ht _ => ⟨_, rfl, Option.some.inj h, ht⟩) (fun _ hq => nomatch hq) d_Rows_index_6
section RC
variable {p : Program} {l : Launch} {e : Env} {R : Room} {s : State} {m : MethodId} {args : Array Value} {below : List Frame} {meth : Method} {c : Code} {H : Heap} {locs : List Loc} {cells slots : Nat} {Q : State → Prop}
variable {cc : ByteArray} {pc : Nat} {ls : Array Slot} {rest : List Value} {G : va_G} {ad : Nat → Nat} {cI cZ : ClassId} {σ : Sg} {own : String}
theorem cl_PM_135 (C : CX "PlaceMoves" cc p s m args c G cI cZ) (hml : c.maxLocals = ls.size) (hP : va_P G clX (wX ad cI cZ σ) H) {x0 : Int32} {x1 : Int32} {r : Int32} (hg : f_Rows_index σ x0 x1 = some r) (hR : 0 + 1 ≤ R.frames ∧ 8 + (2 + 11) + 0 ≤ R.locals) (hrest : (rest.map fun v => v.category).sum ≤ 8) (hd : decode cc pc = .ok (.invokestatic 135, 3)) (hcs : cells + 0 ≤ R.cells ∧ slots + 0 ≤ R.slots) (kk : W p l e R s m args below meth c H locs cells slots Q (F0 m (pc + 3) ls (.int r :: rest))) : W p l e R s m args below meth c H locs cells slots Q (F0 m pc ls (.int x1 :: .int x0 :: rest)) :=
  vp_callSi (W.runS (As := [.int x0, .int x1]) (rest := rest) ⟨C.1, C.2.1, hml, C.2.2.1, C.2.2.2.1⟩ (c_Rows_index l G ad cI cZ σ x0 x1 r hg) (va_cwS 2 C.2.2.2.1 (wg_S w_499 w_404 w_4 w_405) rfl rfl rfl (by decide +kernel) hR) ⟨PcX.blind, fun U hU hW => ⟨rfl, by rw [hU]; exact hP, C.2.2.2.2.warm hW⟩⟩ rfl rfl rfl rfl (lv_room hrest) hd hcs) (fun r' e => by subst e; exact kk)
theorem cl_Rows_28 (C : CX "PlaceMoves$Rows" cc p s m args c G cI cZ) (hml : c.maxLocals = ls.size) (hP : va_P G clX (wX ad cI cZ σ) H) {x0 : Int32} {x1 : Int32} {r : Int32} (hg : f_Rows_index σ x0 x1 = some r) (hR : 0 + 1 ≤ R.frames ∧ 8 + (2 + 11) + 0 ≤ R.locals) (hrest : (rest.map fun v => v.category).sum ≤ 8) (hd : decode cc pc = .ok (.invokestatic 28, 3)) (hcs : cells + 0 ≤ R.cells ∧ slots + 0 ≤ R.slots) (kk : W p l e R s m args below meth c H locs cells slots Q (F0 m (pc + 3) ls (.int r :: rest))) : W p l e R s m args below meth c H locs cells slots Q (F0 m pc ls (.int x1 :: .int x0 :: rest)) :=
  vp_callSi (W.runS (As := [.int x0, .int x1]) (rest := rest) ⟨C.1, C.2.1, hml, C.2.2.1, C.2.2.2.1⟩ (c_Rows_index l G ad cI cZ σ x0 x1 r hg) (va_cwS 2 C.2.2.2.1 (wg_S w_403 w_404 w_4 w_405) rfl rfl rfl (by decide +kernel) hR) ⟨PcX.blind, fun U hU hW => ⟨rfl, by rw [hU]; exact hP, C.2.2.2.2.warm hW⟩⟩ rfl rfl rfl rfl (lv_room hrest) hd hcs) (fun r' e => by subst e; exact kk)
end RC
abbrev wl_Rows_held : List Cond := .code ⟨"PlaceMoves$Rows", "held", "(II)I"⟩ prog_6_method_5_code 5 (some FieldType.int) :: WG
set_option maxHeartbeats 4000000 in
set_option maxRecDepth 100000 in
theorem c_Rows_held (l : Launch) (G : va_G) (ad : Nat → Nat) (cI cZ : ClassId) (σ : Sg) (a1 : Int32) (a2 : Int32) (out : Int32) (h : f_Rows_held σ a1 a2 = some out) : Met l ⟨"PlaceMoves$Rows", "held", "(II)I"⟩ wl_Rows_held ({ frames := 1, cells := 0, slots := 0, locals := 21 } : Room) (PcX G ad cI cZ σ [.ref (ad 3), .int a1, .int a2]) (vp_Si (fun r => r = out)) 0 0 (fun _ => False) := by
  refine Met.ofW (cc := prog_6_method_5_code) (maxL := 5) (ret := (some FieldType.int)) (by decide) rfl ?_
  intro p e s m args below meth c s₁ B hml hv
  obtain ⟨rfl, hP, hK⟩ := hv
  have hx := B.exec
  have hb := B.bytes
  have hr := B.returns
  have hts0 := atoms_spec (ws := wl_Rows_held) B.pre
  have hts : ∀ w ∈ WG, w.before _ s = true := fun w hw => hts0 w (List.mem_cons_of_mem _ hw)
  have hown : s.vm.findClass "PlaceMoves$Rows" = some m.cls := findClass_of_methodNamed B.named
  have hlocks := B.notSynchronized
  have C : CX "PlaceMoves$Rows" prog_6_method_5_code p s m _ c G cI cZ := ⟨hx, hb, hown, hts, hK⟩
  have hl := lv_entry ([.ref (ad 3), .int a1, .int a2]) (n := 5) (Nat.le_of_ble_eq_true rfl)
  rw [lg_entry_eq]
  generalize (lg_sl ([.ref (ad 3), .int a1, .int a2]) ++ List.replicate (5 - (lg_sl ([.ref (ad 3), .int a1, .int a2])).length) Slot.unset).toArray = ls at hl ⊢
  have hl : lv_has ls 5 [(0, .ref (ad 3)), (1, .int a1), (2, .int a2)] := hl
  unfold f_Rows_held at h
  refine lv_aload_n hx hb d_Rows_held_0 rfl (lv_at hl 0 rfl) ?_
  refine gf_Rows_9 C hP d_Rows_held_1 ?_
  refine lv_iload_n hx hb d_Rows_held_4 rfl (lv_at hl 1 rfl) ?_
  obtain ⟨hin, h⟩ := gd_some h
  refine al_17 C hP hin d_Rows_held_5 ?_
  refine lv_iconst (v := 1) hx hb d_Rows_held_6 (by decide) ?_
  refine lv_isub hx hb d_Rows_held_7 ?_
  refine lv_istore_n (lv' := [(3, .int ((σ 17 (Int32.toNatClampNeg a1)) - 1)), (0, .ref (ad 3)), (1, .int a1), (2, .int a2)]) hx hb d_Rows_held_8 rfl hl (by decide) rfl (fun ls hl => ?_)
  have k9 : ∀ (n : Nat) (x1 : Int32) (x2 : Int32) (x3 : Int32) (h : L_Rows_held_9 σ n x1 x2 x3 = some out) (ls : Array Slot) (hl : lv_has ls 5 [(0, .ref (ad 3)), (1, .int x1), (2, .int x2), (3, .int x3)]), W p l e (headSpec wl_Rows_held ({ frames := 1, cells := 0, slots := 0, locals := 21 } : Room)).room s m (([.ref (ad 3), .int a1, .int a2] : List Value).toArray) below meth c s.heap [] 0 0 (MQ below (vp_Si (fun r => r = out)) (([.ref (ad 3), .int a1, .int a2] : List Value).toArray) s 0 0 (fun _ => False)) (F0 m 9 ls []) := by
    intro n
    induction n with
    | zero =>
      intro x1 x2 x3 h
      exact absurd h (by intro z; cases z)
    | succ n ih =>
      intro x1 x2 x3 h ls hl
      replace h : B_Rows_held_9 σ (L_Rows_held_9 σ n) x1 x2 x3 = some out := h
      unfold B_Rows_held_9 at h
      refine lv_iload_n hx hb d_Rows_held_9 rfl (lv_at hl 3 rfl) ?_
      refine lv_if_lt (tgt := 40) hx hb d_Rows_held_10 (by decide) (fun c1 => ?_) (fun c1 => ?_)
      · rw [if_pos c1] at h
        refine lv_iconst (v := (-1)) hx hb d_Rows_held_40 (by decide) ?_
        exact W.iret hx hb hr (fun t ht _ => ⟨_, rfl, Option.some.inj h, ht⟩) (fun _ hq => nomatch hq) d_Rows_held_41
      · rw [if_neg c1] at h
        refine lv_iload_n hx hb d_Rows_held_13 rfl (lv_at hl 1 rfl) ?_
        refine lv_iload_n hx hb d_Rows_held_14 rfl (lv_at hl 3 rfl) ?_
        obtain ⟨r2, g_r2, h⟩ := ob_some h
        refine cl_Rows_28 (rest := []) C (hml.trans hl.1.symm) hP g_r2 ⟨Nat.le_of_ble_eq_true rfl, Nat.le_of_ble_eq_true rfl⟩ (Nat.le_of_ble_eq_true rfl) d_Rows_held_15 ⟨Nat.zero_le _, Nat.zero_le _⟩ ?_
        refine lv_istore (lv' := [(4, .int r2), (0, .ref (ad 3)), (1, .int x1), (2, .int x2), (3, .int x3)]) hx hb d_Rows_held_18 hl (by decide) rfl (fun ls hl => ?_)
        refine lv_aload_n hx hb d_Rows_held_20 rfl (lv_at hl 1 rfl) ?_
        refine gf_Rows_15 C hP d_Rows_held_21 ?_
        refine lv_iload hx hb d_Rows_held_24 (lv_at hl 0 rfl) ?_
        obtain ⟨hin, h⟩ := gd_some h
        refine al_18 C hP hin d_Rows_held_26 ?_
        refine lv_iload_n hx hb d_Rows_held_27 rfl (lv_at hl 3 rfl) ?_
        refine lv_icmp_gt (tgt := 34) hx hb d_Rows_held_28 (by decide) (fun c3 => ?_) (fun c3 => ?_)
        · rw [if_pos c3] at h
          refine lv_iinc (v := x3 + (-1)) (lv' := [(3, .int (x3 + (-1))), (4, .int r2), (0, .ref (ad 3)), (1, .int x1), (2, .int x2)]) hx hb d_Rows_held_34 hl (k := 4) rfl rfl (by decide) rfl (fun ls hl => ?_)
          refine lv_goto (tgt := 9) hx hb d_Rows_held_37 (by decide) ?_
          exact ih x1 x2 (x3 + (-1)) h _ (lv_sub hl [2, 3, 4, 0] rfl)
        · rw [if_neg c3] at h
          refine lv_iload hx hb d_Rows_held_31 (lv_at hl 0 rfl) ?_
          exact W.iret hx hb hr (fun t ht _ => ⟨_, rfl, Option.some.inj h, ht⟩) (fun _ hq => nomatch hq) d_Rows_held_33
  exact k9 _ a1 a2 ((σ 17 (Int32.toNatClampNeg a1)) - 1) h _ (lv_sub hl [1, 2, 3, 0] rfl)
section RC
variable {p : Program} {l : Launch} {e : Env} {R : Room} {s : State} {m : MethodId} {args : Array Value} {below : List Frame} {meth : Method} {c : Code} {H : Heap} {locs : List Loc} {cells slots : Nat} {Q : State → Prop}
variable {cc : ByteArray} {pc : Nat} {ls : Array Slot} {rest : List Value} {G : va_G} {ad : Nat → Nat} {cI cZ : ClassId} {σ : Sg} {own : String}
theorem cl_PM_123 (C : CX "PlaceMoves" cc p s m args c G cI cZ) (hml : c.maxLocals = ls.size) (hP : va_P G clX (wX ad cI cZ σ) H) {x1 : Int32} {x2 : Int32} {r : Int32} (hg : f_Rows_held σ x1 x2 = some r) (hR : 1 + 1 ≤ R.frames ∧ 8 + (5 + 11) + 21 ≤ R.locals) (hrest : (rest.map fun v => v.category).sum ≤ 8) (hd : decode cc pc = .ok (.invokevirtual 123, 3)) (hcs : cells + 0 ≤ R.cells ∧ slots + 0 ≤ R.slots) (kk : W p l e R s m args below meth c H locs cells slots Q (F0 m (pc + 3) ls (.int r :: rest))) : W p l e R s m args below meth c H locs cells slots Q (F0 m pc ls (.int x2 :: .int x1 :: .ref (ad 3) :: rest)) :=
  vp_callSi (W.runV (As := [.int x1, .int x2]) (rest := rest) ⟨C.1, C.2.1, hml, C.2.2.1, C.2.2.2.1⟩ (c_Rows_held l G ad cI cZ σ x1 x2 r hg) (cwV 2 C.2.2.2.1 (wg_V w_399 w_400 w_401 w_4 w_402) rfl rfl rfl (by decide +kernel) hR) ⟨PcX.blind, va_recv C.2.2.2.2.1 hP (ci := 3) (q0 := 3) rfl rfl, fun U hU hW => ⟨rfl, by rw [hU]; exact hP, C.2.2.2.2.warm hW⟩⟩ rfl rfl rfl rfl (lv_room hrest) hd hcs) (fun r' e => by subst e; exact kk)
end RC
abbrev wl_PM_placeAt : List Cond := .code ⟨"PlaceMoves", "placeAt", "(II)I"⟩ prog_1_method_27_code 6 (some FieldType.int) :: WG
set_option maxHeartbeats 4000000 in
set_option maxRecDepth 100000 in
theorem c_PM_placeAt (l : Launch) (G : va_G) (ad : Nat → Nat) (cI cZ : ClassId) (σ : Sg) (a1 : Int32) (a2 : Int32) (out : Int32) (h : f_PM_placeAt σ a1 a2 = some out) : Met l ⟨"PlaceMoves", "placeAt", "(II)I"⟩ wl_PM_placeAt ({ frames := 2, cells := 0, slots := 0, locals := 45 } : Room) (PcX G ad cI cZ σ [.ref (ad 0), .int a1, .int a2]) (vp_Si (fun r => r = out)) 0 0 (fun _ => False) := by
  refine Met.ofW (cc := prog_1_method_27_code) (maxL := 6) (ret := (some FieldType.int)) (by decide) rfl ?_
  intro p e s m args below meth c s₁ B hml hv
  obtain ⟨rfl, hP, hK⟩ := hv
  have hx := B.exec
  have hb := B.bytes
  have hr := B.returns
  have hts0 := atoms_spec (ws := wl_PM_placeAt) B.pre
  have hts : ∀ w ∈ WG, w.before _ s = true := fun w hw => hts0 w (List.mem_cons_of_mem _ hw)
  have hown : s.vm.findClass "PlaceMoves" = some m.cls := findClass_of_methodNamed B.named
  have hlocks := B.notSynchronized
  have C : CX "PlaceMoves" prog_1_method_27_code p s m _ c G cI cZ := ⟨hx, hb, hown, hts, hK⟩
  have hl := lv_entry ([.ref (ad 0), .int a1, .int a2]) (n := 6) (Nat.le_of_ble_eq_true rfl)
  rw [lg_entry_eq]
  generalize (lg_sl ([.ref (ad 0), .int a1, .int a2]) ++ List.replicate (6 - (lg_sl ([.ref (ad 0), .int a1, .int a2])).length) Slot.unset).toArray = ls at hl ⊢
  have hl : lv_has ls 6 [(0, .ref (ad 0)), (1, .int a1), (2, .int a2)] := hl
  unfold f_PM_placeAt at h
  refine lv_iload_n hx hb d_PM_placeAt_0 rfl (lv_at hl 1 rfl) ?_
  refine lv_istore_n (lv' := [(3, .int a1), (0, .ref (ad 0)), (1, .int a1), (2, .int a2)]) hx hb d_PM_placeAt_1 rfl hl (by decide) rfl (fun ls hl => ?_)
  refine lv_iconst (v := 0) hx hb d_PM_placeAt_2 (by decide) ?_
  refine lv_istore (lv' := [(4, .int 0), (3, .int a1), (0, .ref (ad 0)), (1, .int a1), (2, .int a2)]) hx hb d_PM_placeAt_3 hl (by decide) rfl (fun ls hl => ?_)
  have k5 : ∀ (n : Nat) (x2 : Int32) (x3 : Int32) (x4 : Int32) (h : L_PM_placeAt_5 σ n x2 x3 x4 = some out) (ls : Array Slot) (hl : lv_has ls 6 [(0, .ref (ad 0)), (2, .int x2), (3, .int x3), (4, .int x4)]), W p l e (headSpec wl_PM_placeAt ({ frames := 2, cells := 0, slots := 0, locals := 45 } : Room)).room s m (([.ref (ad 0), .int a1, .int a2] : List Value).toArray) below meth c s.heap [] 0 0 (MQ below (vp_Si (fun r => r = out)) (([.ref (ad 0), .int a1, .int a2] : List Value).toArray) s 0 0 (fun _ => False)) (F0 m 5 ls []) := by
    intro n
    induction n with
    | zero =>
      intro x2 x3 x4 h
      exact absurd h (by intro z; cases z)
    | succ n ih =>
      intro x2 x3 x4 h ls hl
      replace h : B_PM_placeAt_5 σ (L_PM_placeAt_5 σ n) x2 x3 x4 = some out := h
      unfold B_PM_placeAt_5 at h
      refine lv_iload hx hb d_PM_placeAt_5 (lv_at hl 3 rfl) ?_
      refine lv_bipush (v := 20) hx hb d_PM_placeAt_7 (by decide) ?_
      refine lv_icmp_ge (tgt := 86) hx hb d_PM_placeAt_9 (by decide) (fun c1 => ?_) (fun c1 => ?_)
      · rw [if_pos c1] at h
        refine lv_iconst (v := (-1)) hx hb d_PM_placeAt_86 (by decide) ?_
        exact W.iret hx hb hr (fun t ht _ => ⟨_, rfl, Option.some.inj h, ht⟩) (fun _ hq => nomatch hq) d_PM_placeAt_87
      · rw [if_neg c1] at h
        refine lv_aload_n hx hb d_PM_placeAt_12 rfl (lv_at hl 0 rfl) ?_
        refine gf_PM_26 C hP d_PM_placeAt_13 ?_
        refine lv_iload_n hx hb d_PM_placeAt_16 rfl (lv_at hl 2 rfl) ?_
        refine lv_iload_n hx hb d_PM_placeAt_17 rfl (lv_at hl 1 rfl) ?_
        obtain ⟨r2, g_r2, h⟩ := ob_some h
        refine cl_PM_123 (rest := []) C (hml.trans hl.1.symm) hP g_r2 ⟨Nat.le_of_ble_eq_true rfl, Nat.le_of_ble_eq_true rfl⟩ (Nat.le_of_ble_eq_true rfl) d_PM_placeAt_18 ⟨Nat.zero_le _, Nat.zero_le _⟩ ?_
        refine lv_istore (lv' := [(5, .int r2), (0, .ref (ad 0)), (2, .int x2), (3, .int x3), (4, .int x4)]) hx hb d_PM_placeAt_21 hl (by decide) rfl (fun ls hl => ?_)
        refine lv_iload hx hb d_PM_placeAt_23 (lv_at hl 0 rfl) ?_
        refine lv_iconst (v := (-1)) hx hb d_PM_placeAt_25 (by decide) ?_
        refine lv_icmp_eq (tgt := 43) hx hb d_PM_placeAt_26 (by decide) (fun c3 => ?_) (fun c3 => ?_)
        · rw [if_pos c3] at h
          refine lv_iconst (v := (-1)) hx hb d_PM_placeAt_43 (by decide) ?_
          exact W.iret hx hb hr (fun t ht _ => ⟨_, rfl, Option.some.inj h, ht⟩) (fun _ hq => nomatch hq) d_PM_placeAt_44
        · rw [if_neg c3] at h
          refine lv_aload_n hx hb d_PM_placeAt_29 rfl (lv_at hl 1 rfl) ?_
          refine gf_PM_26 C hP d_PM_placeAt_30 ?_
          refine gf_PM_126 C hP d_PM_placeAt_33 ?_
          refine lv_iload hx hb d_PM_placeAt_36 (lv_at hl 0 rfl) ?_
          obtain ⟨hin, h⟩ := gd_some h
          refine al_19 C hP hin d_PM_placeAt_38 ?_
          refine lv_iconst (v := 2) hx hb d_PM_placeAt_39 (by decide) ?_
          refine lv_icmp_ne (tgt := 45) hx hb d_PM_placeAt_40 (by decide) (fun c4 => ?_) (fun c4 => ?_)
          · rw [if_neg c4] at h
            refine lv_aload_n hx hb d_PM_placeAt_45 rfl (lv_at hl 1 rfl) ?_
            refine gf_PM_26 C hP d_PM_placeAt_46 ?_
            refine gf_PM_126 C hP d_PM_placeAt_49 ?_
            refine lv_iload hx hb d_PM_placeAt_52 (lv_at hl 0 rfl) ?_
            obtain ⟨hin, h⟩ := gd_some h
            refine al_19 C hP hin d_PM_placeAt_54 ?_
            refine lv_if_ne (tgt := 69) hx hb d_PM_placeAt_55 (by decide) (fun c5 => ?_) (fun c5 => ?_)
            · rw [if_neg c5] at h
              refine lv_aload_n hx hb d_PM_placeAt_69 rfl (lv_at hl 1 rfl) ?_
              refine gf_PM_26 C hP d_PM_placeAt_70 ?_
              refine gf_PM_141 C hP d_PM_placeAt_73 ?_
              refine lv_iload hx hb d_PM_placeAt_76 (lv_at hl 0 rfl) ?_
              obtain ⟨hin, h⟩ := gd_some h
              refine al_20 C hP hin d_PM_placeAt_78 ?_
              obtain ⟨y6, e_y6, h⟩ := lt1_some h
              refine W.eq (g2 := F0 m 79 ls (.int y6 :: [])) (by rw [e_y6]) ?_
              refine lv_istore_n (lv' := [(3, .int y6), (5, .int r2), (0, .ref (ad 0)), (2, .int x2), (4, .int x4)]) hx hb d_PM_placeAt_79 rfl hl (by decide) rfl (fun ls hl => ?_)
              refine lv_iinc (v := x4 + 1) (lv' := [(4, .int (x4 + 1)), (3, .int y6), (5, .int r2), (0, .ref (ad 0)), (2, .int x2)]) hx hb d_PM_placeAt_80 hl (k := 4) rfl rfl (by decide) rfl (fun ls hl => ?_)
              refine lv_goto (tgt := 5) hx hb d_PM_placeAt_83 (by decide) ?_
              exact ih x2 y6 (x4 + 1) h _ (lv_sub hl [3, 4, 1, 0] rfl)
            · rw [if_pos c5] at h
              refine lv_aload_n hx hb d_PM_placeAt_58 rfl (lv_at hl 1 rfl) ?_
              refine gf_PM_26 C hP d_PM_placeAt_59 ?_
              refine gf_PM_141 C hP d_PM_placeAt_62 ?_
              refine lv_iload hx hb d_PM_placeAt_65 (lv_at hl 0 rfl) ?_
              obtain ⟨hin, h⟩ := gd_some h
              refine al_20 C hP hin d_PM_placeAt_67 ?_
              exact W.iret hx hb hr (fun t ht _ => ⟨_, rfl, Option.some.inj h, ht⟩) (fun _ hq => nomatch hq) d_PM_placeAt_68
          · rw [if_pos c4] at h
            refine lv_iconst (v := (-1)) hx hb d_PM_placeAt_43 (by decide) ?_
            exact W.iret hx hb hr (fun t ht _ => ⟨_, rfl, Option.some.inj h, ht⟩) (fun _ hq => nomatch hq) d_PM_placeAt_44
  exact k5 _ a2 a1 0 h _ (lv_sub hl [2, 4, 1, 0] rfl)
section RC
variable {p : Program} {l : Launch} {e : Env} {R : Room} {s : State} {m : MethodId} {args : Array Value} {below : List Frame} {meth : Method} {c : Code} {H : Heap} {locs : List Loc} {cells slots : Nat} {Q : State → Prop}
variable {cc : ByteArray} {pc : Nat} {ls : Array Slot} {rest : List Value} {G : va_G} {ad : Nat → Nat} {cI cZ : ClassId} {σ : Sg} {own : String}
theorem cl_PM_105 (C : CX "PlaceMoves" cc p s m args c G cI cZ) (hml : c.maxLocals = ls.size) (hP : va_P G clX (wX ad cI cZ σ) H) {x1 : Int32} {x2 : Int32} {r : Int32} (hg : f_PM_placeAt σ x1 x2 = some r) (hR : 2 + 1 ≤ R.frames ∧ 8 + (6 + 11) + 45 ≤ R.locals) (hrest : (rest.map fun v => v.category).sum ≤ 8) (hd : decode cc pc = .ok (.invokevirtual 105, 3)) (hcs : cells + 0 ≤ R.cells ∧ slots + 0 ≤ R.slots) (kk : W p l e R s m args below meth c H locs cells slots Q (F0 m (pc + 3) ls (.int r :: rest))) : W p l e R s m args below meth c H locs cells slots Q (F0 m pc ls (.int x2 :: .int x1 :: .ref (ad 0) :: rest)) :=
  vp_callSi (W.runV (As := [.int x1, .int x2]) (rest := rest) ⟨C.1, C.2.1, hml, C.2.2.1, C.2.2.2.1⟩ (c_PM_placeAt l G ad cI cZ σ x1 x2 r hg) (cwV 2 C.2.2.2.1 (wg_V w_395 w_397 ws_5 w_1 w_398) rfl rfl rfl (by decide +kernel) hR) ⟨PcX.blind, va_recv C.2.2.2.2.1 hP (ci := 0) (q0 := 0) rfl rfl, fun U hU hW => ⟨rfl, by rw [hU]; exact hP, C.2.2.2.2.warm hW⟩⟩ rfl rfl rfl rfl (lv_room hrest) hd hcs) (fun r' e => by subst e; exact kk)
end RC
abbrev wl_QuietTimes_covers : List Cond := .code ⟨"PlaceMoves$QuietTimes", "covers", "(II)Z"⟩ prog_5_method_3_code 3 (some FieldType.boolean) :: WG
set_option maxHeartbeats 4000000 in
set_option maxRecDepth 100000 in
theorem c_QuietTimes_covers (l : Launch) (G : va_G) (ad : Nat → Nat) (cI cZ : ClassId) (σ : Sg) (a1 : Int32) (a2 : Int32) (out : Int32) (h : f_QuietTimes_covers σ a1 a2 = some out) : Met l ⟨"PlaceMoves$QuietTimes", "covers", "(II)Z"⟩ wl_QuietTimes_covers ({ frames := 0, cells := 0, slots := 0, locals := 0 } : Room) (PcX G ad cI cZ σ [.ref (ad 6), .int a1, .int a2]) (vp_Si (fun r => r = out)) 0 0 (fun _ => False) := by
  refine Met.ofW (cc := prog_5_method_3_code) (maxL := 3) (ret := (some FieldType.boolean)) (by decide) rfl ?_
  intro p e s m args below meth c s₁ B hml hv
  obtain ⟨rfl, hP, hK⟩ := hv
  have hx := B.exec
  have hb := B.bytes
  have hr := B.returns
  have hts0 := atoms_spec (ws := wl_QuietTimes_covers) B.pre
  have hts : ∀ w ∈ WG, w.before _ s = true := fun w hw => hts0 w (List.mem_cons_of_mem _ hw)
  have hown : s.vm.findClass "PlaceMoves$QuietTimes" = some m.cls := findClass_of_methodNamed B.named
  have hlocks := B.notSynchronized
  have C : CX "PlaceMoves$QuietTimes" prog_5_method_3_code p s m _ c G cI cZ := ⟨hx, hb, hown, hts, hK⟩
  have hl := lv_entry ([.ref (ad 6), .int a1, .int a2]) (n := 3) (Nat.le_of_ble_eq_true rfl)
  rw [lg_entry_eq]
  generalize (lg_sl ([.ref (ad 6), .int a1, .int a2]) ++ List.replicate (3 - (lg_sl ([.ref (ad 6), .int a1, .int a2])).length) Slot.unset).toArray = ls at hl ⊢
  have hl : lv_has ls 3 [(0, .ref (ad 6)), (1, .int a1), (2, .int a2)] := hl
  unfold f_QuietTimes_covers at h
  refine lv_aload_n hx hb d_QuietTimes_covers_0 rfl (lv_at hl 0 rfl) ?_
  refine gf_QuietTimes_15 C hP d_QuietTimes_covers_1 ?_
  refine lv_iload_n hx hb d_QuietTimes_covers_4 rfl (lv_at hl 1 rfl) ?_
  obtain ⟨hin, h⟩ := gd_some h
  refine al_30 C hP hin d_QuietTimes_covers_5 ?_
  refine lv_iload_n hx hb d_QuietTimes_covers_6 rfl (lv_at hl 2 rfl) ?_
  refine lv_icmp_gt (tgt := 24) hx hb d_QuietTimes_covers_7 (by decide) (fun c1 => ?_) (fun c1 => ?_)
  · rw [if_pos c1] at h
    refine lv_iconst (v := 0) hx hb d_QuietTimes_covers_24 (by decide) ?_
    exact W.zret hx hb hr rfl (fun t ht _ => ⟨_, rfl, Option.some.inj h, ht⟩) (fun _ hq => nomatch hq) d_QuietTimes_covers_25
  · rw [if_neg c1] at h
    refine lv_iload_n hx hb d_QuietTimes_covers_10 rfl (lv_at hl 2 rfl) ?_
    refine lv_aload_n hx hb d_QuietTimes_covers_11 rfl (lv_at hl 0 rfl) ?_
    refine gf_QuietTimes_18 C hP d_QuietTimes_covers_12 ?_
    refine lv_iload_n hx hb d_QuietTimes_covers_15 rfl (lv_at hl 1 rfl) ?_
    obtain ⟨hin, h⟩ := gd_some h
    refine al_31 C hP hin d_QuietTimes_covers_16 ?_
    refine lv_icmp_gt (tgt := 24) hx hb d_QuietTimes_covers_17 (by decide) (fun c2 => ?_) (fun c2 => ?_)
    · rw [if_pos c2] at h
      refine lv_iconst (v := 0) hx hb d_QuietTimes_covers_24 (by decide) ?_
      exact W.zret hx hb hr rfl (fun t ht _ => ⟨_, rfl, Option.some.inj h, ht⟩) (fun _ hq => nomatch hq) d_QuietTimes_covers_25
    · rw [if_neg c2] at h
      refine lv_iconst (v := 1) hx hb d_QuietTimes_covers_20 (by decide) ?_
      refine lv_goto (tgt := 25) hx hb d_QuietTimes_covers_21 (by decide) ?_
      exact W.zret hx hb hr rfl (fun t ht _ => ⟨_, rfl, Option.some.inj h, ht⟩) (fun _ hq => nomatch hq) d_QuietTimes_covers_25
section RC
variable {p : Program} {l : Launch} {e : Env} {R : Room} {s : State} {m : MethodId} {args : Array Value} {below : List Frame} {meth : Method} {c : Code} {H : Heap} {locs : List Loc} {cells slots : Nat} {Q : State → Prop}
variable {cc : ByteArray} {pc : Nat} {ls : Array Slot} {rest : List Value} {G : va_G} {ad : Nat → Nat} {cI cZ : ClassId} {σ : Sg} {own : String}
theorem cl_PM_213 (C : CX "PlaceMoves" cc p s m args c G cI cZ) (hml : c.maxLocals = ls.size) (hP : va_P G clX (wX ad cI cZ σ) H) {x1 : Int32} {x2 : Int32} {r : Int32} (hg : f_QuietTimes_covers σ x1 x2 = some r) (hR : 0 + 1 ≤ R.frames ∧ 8 + (3 + 11) + 0 ≤ R.locals) (hrest : (rest.map fun v => v.category).sum ≤ 8) (hd : decode cc pc = .ok (.invokevirtual 213, 3)) (hcs : cells + 0 ≤ R.cells ∧ slots + 0 ≤ R.slots) (kk : W p l e R s m args below meth c H locs cells slots Q (F0 m (pc + 3) ls (.int r :: rest))) : W p l e R s m args below meth c H locs cells slots Q (F0 m pc ls (.int x2 :: .int x1 :: .ref (ad 6) :: rest)) :=
  vp_callSi (W.runV (As := [.int x1, .int x2]) (rest := rest) ⟨C.1, C.2.1, hml, C.2.2.1, C.2.2.2.1⟩ (c_QuietTimes_covers l G ad cI cZ σ x1 x2 r hg) (cwV 2 C.2.2.2.1 (wg_V w_410 w_411 w_412 w_7 w_413) rfl rfl rfl (by decide +kernel) hR) ⟨PcX.blind, va_recv C.2.2.2.2.1 hP (ci := 6) (q0 := 6) rfl rfl, fun U hU hW => ⟨rfl, by rw [hU]; exact hP, C.2.2.2.2.warm hW⟩⟩ rfl rfl rfl rfl (lv_room hrest) hd hcs) (fun r' e => by subst e; exact kk)
end RC
abbrev wl_Places_liesIn : List Cond := .code ⟨"PlaceMoves$Places", "liesIn", "(II)Z"⟩ prog_3_method_4_code 3 (some FieldType.boolean) :: WG
set_option maxHeartbeats 4000000 in
set_option maxRecDepth 100000 in
theorem c_Places_liesIn (l : Launch) (G : va_G) (ad : Nat → Nat) (cI cZ : ClassId) (σ : Sg) (a1 : Int32) (a2 : Int32) (out : Int32) (h : f_Places_liesIn σ a1 a2 = some out) : Met l ⟨"PlaceMoves$Places", "liesIn", "(II)Z"⟩ wl_Places_liesIn ({ frames := 1, cells := 0, slots := 0, locals := 21 } : Room) (PcX G ad cI cZ σ [.ref (ad 1), .int a1, .int a2]) (vp_Si (fun r => r = out)) 0 0 (fun _ => False) := by
  refine Met.ofW (cc := prog_3_method_4_code) (maxL := 3) (ret := (some FieldType.boolean)) (by decide) rfl ?_
  intro p e s m args below meth c s₁ B hml hv
  obtain ⟨rfl, hP, hK⟩ := hv
  have hx := B.exec
  have hb := B.bytes
  have hr := B.returns
  have hts0 := atoms_spec (ws := wl_Places_liesIn) B.pre
  have hts : ∀ w ∈ WG, w.before _ s = true := fun w hw => hts0 w (List.mem_cons_of_mem _ hw)
  have hown : s.vm.findClass "PlaceMoves$Places" = some m.cls := findClass_of_methodNamed B.named
  have hlocks := B.notSynchronized
  have C : CX "PlaceMoves$Places" prog_3_method_4_code p s m _ c G cI cZ := ⟨hx, hb, hown, hts, hK⟩
  have hl := lv_entry ([.ref (ad 1), .int a1, .int a2]) (n := 3) (Nat.le_of_ble_eq_true rfl)
  rw [lg_entry_eq]
  generalize (lg_sl ([.ref (ad 1), .int a1, .int a2]) ++ List.replicate (3 - (lg_sl ([.ref (ad 1), .int a1, .int a2])).length) Slot.unset).toArray = ls at hl ⊢
  have hl : lv_has ls 3 [(0, .ref (ad 1)), (1, .int a1), (2, .int a2)] := hl
  unfold f_Places_liesIn at h
  refine lv_aload_n hx hb d_Places_liesIn_0 rfl (lv_at hl 0 rfl) ?_
  refine lv_iload_n hx hb d_Places_liesIn_1 rfl (lv_at hl 1 rfl) ?_
  obtain ⟨r1, g_r1, h⟩ := ob_some h
  refine cl_Places_22 (rest := []) C (hml.trans hl.1.symm) hP g_r1 ⟨Nat.le_of_ble_eq_true rfl, Nat.le_of_ble_eq_true rfl⟩ (Nat.le_of_ble_eq_true rfl) d_Places_liesIn_2 ⟨Nat.zero_le _, Nat.zero_le _⟩ ?_
  refine lv_iload_n hx hb d_Places_liesIn_5 rfl (lv_at hl 2 rfl) ?_
  refine lv_iushr (v := ush r1 a2) hx hb d_Places_liesIn_6 rfl ?_
  refine lv_iconst (v := 1) hx hb d_Places_liesIn_7 (by decide) ?_
  refine lv_iand hx hb d_Places_liesIn_8 ?_
  refine lv_iconst (v := 1) hx hb d_Places_liesIn_9 (by decide) ?_
  refine lv_icmp_ne (tgt := 17) hx hb d_Places_liesIn_10 (by decide) (fun c2 => ?_) (fun c2 => ?_)
  · rw [if_neg c2] at h
    refine lv_iconst (v := 0) hx hb d_Places_liesIn_17 (by decide) ?_
    exact W.zret hx hb hr rfl (fun t ht _ => ⟨_, rfl, Option.some.inj h, ht⟩) (fun _ hq => nomatch hq) d_Places_liesIn_18
  · rw [if_pos c2] at h
    refine lv_iconst (v := 1) hx hb d_Places_liesIn_13 (by decide) ?_
    refine lv_goto (tgt := 18) hx hb d_Places_liesIn_14 (by decide) ?_
    exact W.zret hx hb hr rfl (fun t ht _ => ⟨_, rfl, Option.some.inj h, ht⟩) (fun _ hq => nomatch hq) d_Places_liesIn_18
section RC
variable {p : Program} {l : Launch} {e : Env} {R : Room} {s : State} {m : MethodId} {args : Array Value} {below : List Frame} {meth : Method} {c : Code} {H : Heap} {locs : List Loc} {cells slots : Nat} {Q : State → Prop}
variable {cc : ByteArray} {pc : Nat} {ls : Array Slot} {rest : List Value} {G : va_G} {ad : Nat → Nat} {cI cZ : ClassId} {σ : Sg} {own : String}
theorem cl_PM_216 (C : CX "PlaceMoves" cc p s m args c G cI cZ) (hml : c.maxLocals = ls.size) (hP : va_P G clX (wX ad cI cZ σ) H) {x1 : Int32} {x2 : Int32} {r : Int32} (hg : f_Places_liesIn σ x1 x2 = some r) (hR : 1 + 1 ≤ R.frames ∧ 8 + (3 + 11) + 21 ≤ R.locals) (hrest : (rest.map fun v => v.category).sum ≤ 8) (hd : decode cc pc = .ok (.invokevirtual 216, 3)) (hcs : cells + 0 ≤ R.cells ∧ slots + 0 ≤ R.slots) (kk : W p l e R s m args below meth c H locs cells slots Q (F0 m (pc + 3) ls (.int r :: rest))) : W p l e R s m args below meth c H locs cells slots Q (F0 m pc ls (.int x2 :: .int x1 :: .ref (ad 1) :: rest)) :=
  vp_callSi (W.runV (As := [.int x1, .int x2]) (rest := rest) ⟨C.1, C.2.1, hml, C.2.2.1, C.2.2.2.1⟩ (c_Places_liesIn l G ad cI cZ σ x1 x2 r hg) (cwV 2 C.2.2.2.1 (wg_V w_414 w_415 w_416 w_2 w_417) rfl rfl rfl (by decide +kernel) hR) ⟨PcX.blind, va_recv C.2.2.2.2.1 hP (ci := 1) (q0 := 1) rfl rfl, fun U hU hW => ⟨rfl, by rw [hU]; exact hP, C.2.2.2.2.warm hW⟩⟩ rfl rfl rfl rfl (lv_room hrest) hd hcs) (fun r' e => by subst e; exact kk)
end RC
abbrev wl_PM_isBarred : List Cond := .code ⟨"PlaceMoves", "isBarred", "(III)Z"⟩ prog_1_method_30_code 6 (some FieldType.boolean) :: WG
set_option maxHeartbeats 4000000 in
set_option maxRecDepth 100000 in
theorem c_PM_isBarred (l : Launch) (G : va_G) (ad : Nat → Nat) (cI cZ : ClassId) (σ : Sg) (a1 : Int32) (a2 : Int32) (a3 : Int32) (out : Int32) (h : f_PM_isBarred σ a1 a2 a3 = some out) : Met l ⟨"PlaceMoves", "isBarred", "(III)Z"⟩ wl_PM_isBarred ({ frames := 2, cells := 0, slots := 0, locals := 43 } : Room) (PcX G ad cI cZ σ [.ref (ad 0), .int a1, .int a2, .int a3]) (vp_Si (fun r => r = out)) 0 0 (fun _ => False) := by
  refine Met.ofW (cc := prog_1_method_30_code) (maxL := 6) (ret := (some FieldType.boolean)) (by decide) rfl ?_
  intro p e s m args below meth c s₁ B hml hv
  obtain ⟨rfl, hP, hK⟩ := hv
  have hx := B.exec
  have hb := B.bytes
  have hr := B.returns
  have hts0 := atoms_spec (ws := wl_PM_isBarred) B.pre
  have hts : ∀ w ∈ WG, w.before _ s = true := fun w hw => hts0 w (List.mem_cons_of_mem _ hw)
  have hown : s.vm.findClass "PlaceMoves" = some m.cls := findClass_of_methodNamed B.named
  have hlocks := B.notSynchronized
  have C : CX "PlaceMoves" prog_1_method_30_code p s m _ c G cI cZ := ⟨hx, hb, hown, hts, hK⟩
  have hl := lv_entry ([.ref (ad 0), .int a1, .int a2, .int a3]) (n := 6) (Nat.le_of_ble_eq_true rfl)
  rw [lg_entry_eq]
  generalize (lg_sl ([.ref (ad 0), .int a1, .int a2, .int a3]) ++ List.replicate (6 - (lg_sl ([.ref (ad 0), .int a1, .int a2, .int a3])).length) Slot.unset).toArray = ls at hl ⊢
  have hl : lv_has ls 6 [(0, .ref (ad 0)), (1, .int a1), (2, .int a2), (3, .int a3)] := hl
  unfold f_PM_isBarred at h
  refine lv_iconst (v := 0) hx hb d_PM_isBarred_0 (by decide) ?_
  refine lv_istore (lv' := [(4, .int 0), (0, .ref (ad 0)), (1, .int a1), (2, .int a2), (3, .int a3)]) hx hb d_PM_isBarred_1 hl (by decide) rfl (fun ls hl => ?_)
  have k3 : ∀ (n : Nat) (x1 : Int32) (x2 : Int32) (x3 : Int32) (x4 : Int32) (h : L_PM_isBarred_3 σ n x1 x2 x3 x4 = some out) (ls : Array Slot) (hl : lv_has ls 6 [(0, .ref (ad 0)), (1, .int x1), (2, .int x2), (3, .int x3), (4, .int x4)]), W p l e (headSpec wl_PM_isBarred ({ frames := 2, cells := 0, slots := 0, locals := 43 } : Room)).room s m (([.ref (ad 0), .int a1, .int a2, .int a3] : List Value).toArray) below meth c s.heap [] 0 0 (MQ below (vp_Si (fun r => r = out)) (([.ref (ad 0), .int a1, .int a2, .int a3] : List Value).toArray) s 0 0 (fun _ => False)) (F0 m 3 ls []) := by
    intro n
    induction n with
    | zero =>
      intro x1 x2 x3 x4 h
      exact absurd h (by intro z; cases z)
    | succ n ih =>
      intro x1 x2 x3 x4 h ls hl
      replace h : B_PM_isBarred_3 σ (L_PM_isBarred_3 σ n) x1 x2 x3 x4 = some out := h
      unfold B_PM_isBarred_3 at h
      refine lv_iload hx hb d_PM_isBarred_3 (lv_at hl 4 rfl) ?_
      refine lv_aload_n hx hb d_PM_isBarred_5 rfl (lv_at hl 0 rfl) ?_
      refine gf_PM_47 C hP d_PM_isBarred_6 ?_
      refine gf_PM_183 C hP d_PM_isBarred_9 ?_
      refine lv_icmp_ge (tgt := 71) hx hb d_PM_isBarred_12 (by decide) (fun c1 => ?_) (fun c1 => ?_)
      · rw [if_pos c1] at h
        refine lv_iconst (v := 0) hx hb d_PM_isBarred_71 (by decide) ?_
        exact W.zret hx hb hr rfl (fun t ht _ => ⟨_, rfl, Option.some.inj h, ht⟩) (fun _ hq => nomatch hq) d_PM_isBarred_72
      · rw [if_neg c1] at h
        refine lv_aload_n hx hb d_PM_isBarred_15 rfl (lv_at hl 0 rfl) ?_
        refine gf_PM_47 C hP d_PM_isBarred_16 ?_
        refine gf_PM_210 C hP d_PM_isBarred_19 ?_
        refine lv_iload hx hb d_PM_isBarred_22 (lv_at hl 4 rfl) ?_
        obtain ⟨hin, h⟩ := gd_some h
        refine al_29 C hP hin d_PM_isBarred_24 ?_
        obtain ⟨y2, e_y2, h⟩ := lt1_some h
        refine W.eq (g2 := F0 m 25 ls (.int y2 :: [])) (by rw [e_y2]) ?_
        refine lv_istore (lv' := [(5, .int y2), (0, .ref (ad 0)), (1, .int x1), (2, .int x2), (3, .int x3), (4, .int x4)]) hx hb d_PM_isBarred_25 hl (by decide) rfl (fun ls hl => ?_)
        refine lv_aload_n hx hb d_PM_isBarred_27 rfl (lv_at hl 1 rfl) ?_
        refine gf_PM_47 C hP d_PM_isBarred_28 ?_
        refine lv_iload hx hb d_PM_isBarred_31 (lv_at hl 5 rfl) ?_
        refine lv_iload_n hx hb d_PM_isBarred_33 rfl (lv_at hl 4 rfl) ?_
        obtain ⟨r3, g_r3, h⟩ := ob_some h
        refine cl_PM_213 (rest := []) C (hml.trans hl.1.symm) hP g_r3 ⟨Nat.le_of_ble_eq_true rfl, Nat.le_of_ble_eq_true rfl⟩ (Nat.le_of_ble_eq_true rfl) d_PM_isBarred_34 ⟨Nat.zero_le _, Nat.zero_le _⟩ ?_
        refine lv_if_eq (tgt := 65) hx hb d_PM_isBarred_37 (by decide) (fun c4 => ?_) (fun c4 => ?_)
        · rw [if_pos c4] at h
          refine lv_iinc (v := x4 + 1) (lv' := [(4, .int (x4 + 1)), (5, .int y2), (0, .ref (ad 0)), (1, .int x1), (2, .int x2), (3, .int x3)]) hx hb d_PM_isBarred_65 hl (k := 5) rfl rfl (by decide) rfl (fun ls hl => ?_)
          refine lv_goto (tgt := 3) hx hb d_PM_isBarred_68 (by decide) ?_
          exact ih x1 x2 x3 (x4 + 1) h _ (lv_sub hl [2, 3, 4, 5, 0] rfl)
        · rw [if_neg c4] at h
          refine lv_aload_n hx hb d_PM_isBarred_40 rfl (lv_at hl 1 rfl) ?_
          refine gf_PM_10 C hP d_PM_isBarred_41 ?_
          refine lv_iload_n hx hb d_PM_isBarred_44 rfl (lv_at hl 2 rfl) ?_
          refine lv_iload hx hb d_PM_isBarred_45 (lv_at hl 0 rfl) ?_
          obtain ⟨r5, g_r5, h⟩ := ob_some h
          refine cl_PM_216 (rest := []) C (hml.trans hl.1.symm) hP g_r5 ⟨Nat.le_of_ble_eq_true rfl, Nat.le_of_ble_eq_true rfl⟩ (Nat.le_of_ble_eq_true rfl) d_PM_isBarred_47 ⟨Nat.zero_le _, Nat.zero_le _⟩ ?_
          refine lv_aload_n hx hb d_PM_isBarred_50 rfl (lv_at hl 1 rfl) ?_
          refine gf_PM_10 C hP d_PM_isBarred_51 ?_
          refine lv_iload_n hx hb d_PM_isBarred_54 rfl (lv_at hl 3 rfl) ?_
          refine lv_iload hx hb d_PM_isBarred_55 (lv_at hl 0 rfl) ?_
          obtain ⟨r6, g_r6, h⟩ := ob_some h
          refine cl_PM_216 (rest := [.int r5]) C (hml.trans hl.1.symm) hP g_r6 ⟨Nat.le_of_ble_eq_true rfl, Nat.le_of_ble_eq_true rfl⟩ (Nat.le_of_ble_eq_true rfl) d_PM_isBarred_57 ⟨Nat.zero_le _, Nat.zero_le _⟩ ?_
          refine lv_icmp_eq (tgt := 65) hx hb d_PM_isBarred_60 (by decide) (fun c7 => ?_) (fun c7 => ?_)
          · rw [if_pos c7] at h
            refine lv_iinc (v := x4 + 1) (lv' := [(4, .int (x4 + 1)), (5, .int y2), (0, .ref (ad 0)), (1, .int x1), (2, .int x2), (3, .int x3)]) hx hb d_PM_isBarred_65 hl (k := 5) rfl rfl (by decide) rfl (fun ls hl => ?_)
            refine lv_goto (tgt := 3) hx hb d_PM_isBarred_68 (by decide) ?_
            exact ih x1 x2 x3 (x4 + 1) h _ (lv_sub hl [2, 3, 4, 5, 0] rfl)
          · rw [if_neg c7] at h
            refine lv_iconst (v := 1) hx hb d_PM_isBarred_63 (by decide) ?_
            exact W.zret hx hb hr rfl (fun t ht _ => ⟨_, rfl, Option.some.inj h, ht⟩) (fun _ hq => nomatch hq) d_PM_isBarred_64
  exact k3 _ a1 a2 a3 0 h _ (lv_sub hl [1, 2, 3, 4, 0] rfl)
section RC
variable {p : Program} {l : Launch} {e : Env} {R : Room} {s : State} {m : MethodId} {args : Array Value} {below : List Frame} {meth : Method} {c : Code} {H : Heap} {locs : List Loc} {cells slots : Nat} {Q : State → Prop}
variable {cc : ByteArray} {pc : Nat} {ls : Array Slot} {rest : List Value} {G : va_G} {ad : Nat → Nat} {cI cZ : ClassId} {σ : Sg} {own : String}
theorem cl_PM_108 (C : CX "PlaceMoves" cc p s m args c G cI cZ) (hml : c.maxLocals = ls.size) (hP : va_P G clX (wX ad cI cZ σ) H) {x1 : Int32} {x2 : Int32} {x3 : Int32} {r : Int32} (hg : f_PM_isBarred σ x1 x2 x3 = some r) (hR : 2 + 1 ≤ R.frames ∧ 8 + (6 + 11) + 43 ≤ R.locals) (hrest : (rest.map fun v => v.category).sum ≤ 8) (hd : decode cc pc = .ok (.invokevirtual 108, 3)) (hcs : cells + 0 ≤ R.cells ∧ slots + 0 ≤ R.slots) (kk : W p l e R s m args below meth c H locs cells slots Q (F0 m (pc + 3) ls (.int r :: rest))) : W p l e R s m args below meth c H locs cells slots Q (F0 m pc ls (.int x3 :: .int x2 :: .int x1 :: .ref (ad 0) :: rest)) :=
  vp_callSi (W.runV (As := [.int x1, .int x2, .int x3]) (rest := rest) ⟨C.1, C.2.1, hml, C.2.2.1, C.2.2.2.1⟩ (c_PM_isBarred l G ad cI cZ σ x1 x2 x3 r hg) (cwV 3 C.2.2.2.1 (wg_V w_406 w_408 ws_6 w_1 w_409) rfl rfl rfl (by decide +kernel) hR) ⟨PcX.blind, va_recv C.2.2.2.2.1 hP (ci := 0) (q0 := 0) rfl rfl, fun U hU hW => ⟨rfl, by rw [hU]; exact hP, C.2.2.2.2.warm hW⟩⟩ rfl rfl rfl rfl (lv_room hrest) hd hcs) (fun r' e => by subst e; exact kk)
end RC
abbrev wl_Plans_covers : List Cond := .code ⟨"PlaceMoves$Plans", "covers", "(II)Z"⟩ prog_4_method_4_code 3 (some FieldType.boolean) :: WG
set_option maxHeartbeats 4000000 in
set_option maxRecDepth 100000 in
theorem c_Plans_covers (l : Launch) (G : va_G) (ad : Nat → Nat) (cI cZ : ClassId) (σ : Sg) (a1 : Int32) (a2 : Int32) (out : Int32) (h : f_Plans_covers σ a1 a2 = some out) : Met l ⟨"PlaceMoves$Plans", "covers", "(II)Z"⟩ wl_Plans_covers ({ frames := 0, cells := 0, slots := 0, locals := 0 } : Room) (PcX G ad cI cZ σ [.ref (ad 5), .int a1, .int a2]) (vp_Si (fun r => r = out)) 0 0 (fun _ => False) := by
  refine Met.ofW (cc := prog_4_method_4_code) (maxL := 3) (ret := (some FieldType.boolean)) (by decide) rfl ?_
  intro p e s m args below meth c s₁ B hml hv
  obtain ⟨rfl, hP, hK⟩ := hv
  have hx := B.exec
  have hb := B.bytes
  have hr := B.returns
  have hts0 := atoms_spec (ws := wl_Plans_covers) B.pre
  have hts : ∀ w ∈ WG, w.before _ s = true := fun w hw => hts0 w (List.mem_cons_of_mem _ hw)
  have hown : s.vm.findClass "PlaceMoves$Plans" = some m.cls := findClass_of_methodNamed B.named
  have hlocks := B.notSynchronized
  have C : CX "PlaceMoves$Plans" prog_4_method_4_code p s m _ c G cI cZ := ⟨hx, hb, hown, hts, hK⟩
  have hl := lv_entry ([.ref (ad 5), .int a1, .int a2]) (n := 3) (Nat.le_of_ble_eq_true rfl)
  rw [lg_entry_eq]
  generalize (lg_sl ([.ref (ad 5), .int a1, .int a2]) ++ List.replicate (3 - (lg_sl ([.ref (ad 5), .int a1, .int a2])).length) Slot.unset).toArray = ls at hl ⊢
  have hl : lv_has ls 3 [(0, .ref (ad 5)), (1, .int a1), (2, .int a2)] := hl
  unfold f_Plans_covers at h
  refine lv_aload_n hx hb d_Plans_covers_0 rfl (lv_at hl 0 rfl) ?_
  refine gf_Plans_18 C hP d_Plans_covers_1 ?_
  refine lv_iload_n hx hb d_Plans_covers_4 rfl (lv_at hl 1 rfl) ?_
  obtain ⟨hin, h⟩ := gd_some h
  refine al_27 C hP hin d_Plans_covers_5 ?_
  refine lv_iload_n hx hb d_Plans_covers_6 rfl (lv_at hl 2 rfl) ?_
  refine lv_icmp_gt (tgt := 24) hx hb d_Plans_covers_7 (by decide) (fun c1 => ?_) (fun c1 => ?_)
  · rw [if_pos c1] at h
    refine lv_iconst (v := 0) hx hb d_Plans_covers_24 (by decide) ?_
    exact W.zret hx hb hr rfl (fun t ht _ => ⟨_, rfl, Option.some.inj h, ht⟩) (fun _ hq => nomatch hq) d_Plans_covers_25
  · rw [if_neg c1] at h
    refine lv_iload_n hx hb d_Plans_covers_10 rfl (lv_at hl 2 rfl) ?_
    refine lv_aload_n hx hb d_Plans_covers_11 rfl (lv_at hl 0 rfl) ?_
    refine gf_Plans_21 C hP d_Plans_covers_12 ?_
    refine lv_iload_n hx hb d_Plans_covers_15 rfl (lv_at hl 1 rfl) ?_
    obtain ⟨hin, h⟩ := gd_some h
    refine al_28 C hP hin d_Plans_covers_16 ?_
    refine lv_icmp_gt (tgt := 24) hx hb d_Plans_covers_17 (by decide) (fun c2 => ?_) (fun c2 => ?_)
    · rw [if_pos c2] at h
      refine lv_iconst (v := 0) hx hb d_Plans_covers_24 (by decide) ?_
      exact W.zret hx hb hr rfl (fun t ht _ => ⟨_, rfl, Option.some.inj h, ht⟩) (fun _ hq => nomatch hq) d_Plans_covers_25
    · rw [if_neg c2] at h
      refine lv_iconst (v := 1) hx hb d_Plans_covers_20 (by decide) ?_
      refine lv_goto (tgt := 25) hx hb d_Plans_covers_21 (by decide) ?_
      exact W.zret hx hb hr rfl (fun t ht _ => ⟨_, rfl, Option.some.inj h, ht⟩) (fun _ hq => nomatch hq) d_Plans_covers_25
section RC
variable {p : Program} {l : Launch} {e : Env} {R : Room} {s : State} {m : MethodId} {args : Array Value} {below : List Frame} {meth : Method} {c : Code} {H : Heap} {locs : List Loc} {cells slots : Nat} {Q : State → Prop}
variable {cc : ByteArray} {pc : Nat} {ls : Array Slot} {rest : List Value} {G : va_G} {ad : Nat → Nat} {cI cZ : ClassId} {σ : Sg} {own : String}
theorem cl_PM_234 (C : CX "PlaceMoves" cc p s m args c G cI cZ) (hml : c.maxLocals = ls.size) (hP : va_P G clX (wX ad cI cZ σ) H) {x1 : Int32} {x2 : Int32} {r : Int32} (hg : f_Plans_covers σ x1 x2 = some r) (hR : 0 + 1 ≤ R.frames ∧ 8 + (3 + 11) + 0 ≤ R.locals) (hrest : (rest.map fun v => v.category).sum ≤ 8) (hd : decode cc pc = .ok (.invokevirtual 234, 3)) (hcs : cells + 0 ≤ R.cells ∧ slots + 0 ≤ R.slots) (kk : W p l e R s m args below meth c H locs cells slots Q (F0 m (pc + 3) ls (.int r :: rest))) : W p l e R s m args below meth c H locs cells slots Q (F0 m pc ls (.int x2 :: .int x1 :: .ref (ad 5) :: rest)) :=
  vp_callSi (W.runV (As := [.int x1, .int x2]) (rest := rest) ⟨C.1, C.2.1, hml, C.2.2.1, C.2.2.2.1⟩ (c_Plans_covers l G ad cI cZ σ x1 x2 r hg) (cwV 2 C.2.2.2.1 (wg_V w_439 w_440 w_441 w_6 w_442) rfl rfl rfl (by decide +kernel) hR) ⟨PcX.blind, va_recv C.2.2.2.2.1 hP (ci := 5) (q0 := 5) rfl rfl, fun U hU hW => ⟨rfl, by rw [hU]; exact hP, C.2.2.2.2.warm hW⟩⟩ rfl rfl rfl rfl (lv_room hrest) hd hcs) (fun r' e => by subst e; exact kk)
end RC
end
section
abbrev wl_PM_weightOf : List Cond := .code ⟨"PlaceMoves", "weightOf", "(I)I"⟩ prog_1_method_35_code 4 (some FieldType.int) :: WG
set_option maxHeartbeats 4000000 in
set_option maxRecDepth 100000 in
theorem c_PM_weightOf (l : Launch) (G : va_G) (ad : Nat → Nat) (cI cZ : ClassId) (σ : Sg) (a1 : Int32) (out : Int32) (h : f_PM_weightOf σ a1 = some out) : Met l ⟨"PlaceMoves", "weightOf", "(I)I"⟩ wl_PM_weightOf ({ frames := 0, cells := 0, slots := 0, locals := 0 } : Room) (PcX G ad cI cZ σ [.ref (ad 0), .int a1]) (vp_Si (fun r => r = out)) 0 0 (fun _ => False) := by
  refine Met.ofW (cc := prog_1_method_35_code) (maxL := 4) (ret := (some FieldType.int)) (by decide) rfl ?_
  intro p e s m args below meth c s₁ B hml hv
  obtain ⟨rfl, hP, hK⟩ := hv
  have hx := B.exec
  have hb := B.bytes
  have hr := B.returns
  have hts0 := atoms_spec (ws := wl_PM_weightOf) B.pre
  have hts : ∀ w ∈ WG, w.before _ s = true := fun w hw => hts0 w (List.mem_cons_of_mem _ hw)
  have hown : s.vm.findClass "PlaceMoves" = some m.cls := findClass_of_methodNamed B.named
  have hlocks := B.notSynchronized
  have C : CX "PlaceMoves" prog_1_method_35_code p s m _ c G cI cZ := ⟨hx, hb, hown, hts, hK⟩
  have hl := lv_entry ([.ref (ad 0), .int a1]) (n := 4) (Nat.le_of_ble_eq_true rfl)
  rw [lg_entry_eq]
  generalize (lg_sl ([.ref (ad 0), .int a1]) ++ List.replicate (4 - (lg_sl ([.ref (ad 0), .int a1])).length) Slot.unset).toArray = ls at hl ⊢
  have hl : lv_has ls 4 [(0, .ref (ad 0)), (1, .int a1)] := hl
  unfold f_PM_weightOf at h
  refine lv_iconst (v := 0) hx hb d_PM_weightOf_0 (by decide) ?_
  refine lv_istore_n (lv' := [(2, .int 0), (0, .ref (ad 0)), (1, .int a1)]) hx hb d_PM_weightOf_1 rfl hl (by decide) rfl (fun ls hl => ?_)
  refine lv_iconst (v := 0) hx hb d_PM_weightOf_2 (by decide) ?_
  refine lv_istore_n (lv' := [(3, .int 0), (2, .int 0), (0, .ref (ad 0)), (1, .int a1)]) hx hb d_PM_weightOf_3 rfl hl (by decide) rfl (fun ls hl => ?_)
  have k4 : ∀ (n : Nat) (x1 : Int32) (x2 : Int32) (x3 : Int32) (h : L_PM_weightOf_4 σ n x1 x2 x3 = some out) (ls : Array Slot) (hl : lv_has ls 4 [(0, .ref (ad 0)), (1, .int x1), (2, .int x2), (3, .int x3)]), W p l e (headSpec wl_PM_weightOf ({ frames := 0, cells := 0, slots := 0, locals := 0 } : Room)).room s m (([.ref (ad 0), .int a1] : List Value).toArray) below meth c s.heap [] 0 0 (MQ below (vp_Si (fun r => r = out)) (([.ref (ad 0), .int a1] : List Value).toArray) s 0 0 (fun _ => False)) (F0 m 4 ls []) := by
    intro n
    induction n with
    | zero =>
      intro x1 x2 x3 h
      exact absurd h (by intro z; cases z)
    | succ n ih =>
      intro x1 x2 x3 h ls hl
      replace h : B_PM_weightOf_4 σ (L_PM_weightOf_4 σ n) x1 x2 x3 = some out := h
      unfold B_PM_weightOf_4 at h
      refine lv_iload_n hx hb d_PM_weightOf_4 rfl (lv_at hl 3 rfl) ?_
      refine lv_aload_n hx hb d_PM_weightOf_5 rfl (lv_at hl 0 rfl) ?_
      refine gf_PM_19 C hP d_PM_weightOf_6 ?_
      refine gf_PM_84 C hP d_PM_weightOf_9 ?_
      refine lv_icmp_ge (tgt := 47) hx hb d_PM_weightOf_12 (by decide) (fun c1 => ?_) (fun c1 => ?_)
      · rw [if_pos c1] at h
        refine lv_iload_n hx hb d_PM_weightOf_47 rfl (lv_at hl 2 rfl) ?_
        exact W.iret hx hb hr (fun t ht _ => ⟨_, rfl, Option.some.inj h, ht⟩) (fun _ hq => nomatch hq) d_PM_weightOf_48
      · rw [if_neg c1] at h
        refine lv_aload_n hx hb d_PM_weightOf_15 rfl (lv_at hl 0 rfl) ?_
        refine gf_PM_55 C hP d_PM_weightOf_16 ?_
        refine lv_iload_n hx hb d_PM_weightOf_19 rfl (lv_at hl 3 rfl) ?_
        obtain ⟨hin, h⟩ := gd_some h
        refine al_8 C hP hin d_PM_weightOf_20 ?_
        refine lv_iload_n hx hb d_PM_weightOf_21 rfl (lv_at hl 1 rfl) ?_
        refine lv_iushr (v := ush (σ 8 (Int32.toNatClampNeg x3)) x1) hx hb d_PM_weightOf_22 rfl ?_
        refine lv_iconst (v := 1) hx hb d_PM_weightOf_23 (by decide) ?_
        refine lv_iand hx hb d_PM_weightOf_24 ?_
        refine lv_iconst (v := 1) hx hb d_PM_weightOf_25 (by decide) ?_
        refine lv_icmp_ne (tgt := 41) hx hb d_PM_weightOf_26 (by decide) (fun c2 => ?_) (fun c2 => ?_)
        · rw [if_neg c2] at h
          refine lv_iinc (v := x3 + 1) (lv' := [(3, .int (x3 + 1)), (0, .ref (ad 0)), (1, .int x1), (2, .int x2)]) hx hb d_PM_weightOf_41 hl (k := 3) rfl rfl (by decide) rfl (fun ls hl => ?_)
          refine lv_goto (tgt := 4) hx hb d_PM_weightOf_44 (by decide) ?_
          exact ih x1 x2 (x3 + 1) h _ (lv_sub hl [1, 2, 3, 0] rfl)
        · rw [if_pos c2] at h
          refine lv_iload_n hx hb d_PM_weightOf_29 rfl (lv_at hl 2 rfl) ?_
          refine lv_aload_n hx hb d_PM_weightOf_30 rfl (lv_at hl 0 rfl) ?_
          refine gf_PM_19 C hP d_PM_weightOf_31 ?_
          refine gf_PM_239 C hP d_PM_weightOf_34 ?_
          refine lv_iload_n hx hb d_PM_weightOf_37 rfl (lv_at hl 3 rfl) ?_
          obtain ⟨hin, h⟩ := gd_some h
          refine al_14 C hP hin d_PM_weightOf_38 ?_
          refine lv_iadd hx hb d_PM_weightOf_39 ?_
          obtain ⟨y3, e_y3, h⟩ := lt1_some h
          refine W.eq (g2 := F0 m 40 ls (.int y3 :: [])) (by rw [e_y3]) ?_
          refine lv_istore_n (lv' := [(2, .int y3), (0, .ref (ad 0)), (1, .int x1), (3, .int x3)]) hx hb d_PM_weightOf_40 rfl hl (by decide) rfl (fun ls hl => ?_)
          refine lv_iinc (v := x3 + 1) (lv' := [(3, .int (x3 + 1)), (2, .int y3), (0, .ref (ad 0)), (1, .int x1)]) hx hb d_PM_weightOf_41 hl (k := 3) rfl rfl (by decide) rfl (fun ls hl => ?_)
          refine lv_goto (tgt := 4) hx hb d_PM_weightOf_44 (by decide) ?_
          exact ih x1 y3 (x3 + 1) h _ (lv_sub hl [2, 3, 1, 0] rfl)
  exact k4 _ a1 0 0 h _ (lv_sub hl [2, 3, 1, 0] rfl)
section RC
variable {p : Program} {l : Launch} {e : Env} {R : Room} {s : State} {m : MethodId} {args : Array Value} {below : List Frame} {meth : Method} {c : Code} {H : Heap} {locs : List Loc} {cells slots : Nat} {Q : State → Prop}
variable {cc : ByteArray} {pc : Nat} {ls : Array Slot} {rest : List Value} {G : va_G} {ad : Nat → Nat} {cI cZ : ClassId} {σ : Sg} {own : String}
theorem cl_PM_177 (C : CX "PlaceMoves" cc p s m args c G cI cZ) (hml : c.maxLocals = ls.size) (hP : va_P G clX (wX ad cI cZ σ) H) {x1 : Int32} {r : Int32} (hg : f_PM_weightOf σ x1 = some r) (hR : 0 + 1 ≤ R.frames ∧ 8 + (4 + 11) + 0 ≤ R.locals) (hrest : (rest.map fun v => v.category).sum ≤ 8) (hd : decode cc pc = .ok (.invokevirtual 177, 3)) (hcs : cells + 0 ≤ R.cells ∧ slots + 0 ≤ R.slots) (kk : W p l e R s m args below meth c H locs cells slots Q (F0 m (pc + 3) ls (.int r :: rest))) : W p l e R s m args below meth c H locs cells slots Q (F0 m pc ls (.int x1 :: .ref (ad 0) :: rest)) :=
  vp_callSi (W.runV (As := [.int x1]) (rest := rest) ⟨C.1, C.2.1, hml, C.2.2.1, C.2.2.2.1⟩ (c_PM_weightOf l G ad cI cZ σ x1 r hg) (cwV 1 C.2.2.2.1 (wg_V w_443 w_445 ws_11 w_1 w_446) rfl rfl rfl (by decide +kernel) hR) ⟨PcX.blind, va_recv C.2.2.2.2.1 hP (ci := 0) (q0 := 0) rfl rfl, fun U hU hW => ⟨rfl, by rw [hU]; exact hP, C.2.2.2.2.warm hW⟩⟩ rfl rfl rfl rfl (lv_room hrest) hd hcs) (fun r' e => by subst e; exact kk)
end RC
abbrev wl_PM_isWithin : List Cond := .code ⟨"PlaceMoves", "isWithin", "(III)Z"⟩ prog_1_method_29_code 7 (some FieldType.boolean) :: WG
set_option maxHeartbeats 4000000 in
set_option maxRecDepth 100000 in
theorem c_PM_isWithin (l : Launch) (G : va_G) (ad : Nat → Nat) (cI cZ : ClassId) (σ : Sg) (a1 : Int32) (a2 : Int32) (a3 : Int32) (out : Int32) (h : f_PM_isWithin σ a1 a2 a3 = some out) : Met l ⟨"PlaceMoves", "isWithin", "(III)Z"⟩ wl_PM_isWithin ({ frames := 2, cells := 0, slots := 0, locals := 45 } : Room) (PcX G ad cI cZ σ [.ref (ad 0), .int a1, .int a2, .int a3]) (vp_Si (fun r => r = out)) 0 0 (fun _ => False) := by
  refine Met.ofW (cc := prog_1_method_29_code) (maxL := 7) (ret := (some FieldType.boolean)) (by decide) rfl ?_
  intro p e s m args below meth c s₁ B hml hv
  obtain ⟨rfl, hP, hK⟩ := hv
  have hx := B.exec
  have hb := B.bytes
  have hr := B.returns
  have hts0 := atoms_spec (ws := wl_PM_isWithin) B.pre
  have hts : ∀ w ∈ WG, w.before _ s = true := fun w hw => hts0 w (List.mem_cons_of_mem _ hw)
  have hown : s.vm.findClass "PlaceMoves" = some m.cls := findClass_of_methodNamed B.named
  have hlocks := B.notSynchronized
  have C : CX "PlaceMoves" prog_1_method_29_code p s m _ c G cI cZ := ⟨hx, hb, hown, hts, hK⟩
  have hl := lv_entry ([.ref (ad 0), .int a1, .int a2, .int a3]) (n := 7) (Nat.le_of_ble_eq_true rfl)
  rw [lg_entry_eq]
  generalize (lg_sl ([.ref (ad 0), .int a1, .int a2, .int a3]) ++ List.replicate (7 - (lg_sl ([.ref (ad 0), .int a1, .int a2, .int a3])).length) Slot.unset).toArray = ls at hl ⊢
  have hl : lv_has ls 7 [(0, .ref (ad 0)), (1, .int a1), (2, .int a2), (3, .int a3)] := hl
  unfold f_PM_isWithin at h
  refine lv_iload_n hx hb d_PM_isWithin_0 rfl (lv_at hl 1 rfl) ?_
  refine lv_istore (lv' := [(4, .int a1), (0, .ref (ad 0)), (1, .int a1), (2, .int a2), (3, .int a3)]) hx hb d_PM_isWithin_1 hl (by decide) rfl (fun ls hl => ?_)
  refine lv_iconst (v := 0) hx hb d_PM_isWithin_3 (by decide) ?_
  refine lv_istore (lv' := [(5, .int 0), (4, .int a1), (0, .ref (ad 0)), (1, .int a1), (2, .int a2), (3, .int a3)]) hx hb d_PM_isWithin_4 hl (by decide) rfl (fun ls hl => ?_)
  have k6 : ∀ (n : Nat) (x2 : Int32) (x3 : Int32) (x4 : Int32) (x5 : Int32) (h : L_PM_isWithin_6 σ n x2 x3 x4 x5 = some out) (ls : Array Slot) (hl : lv_has ls 7 [(0, .ref (ad 0)), (2, .int x2), (3, .int x3), (4, .int x4), (5, .int x5)]), W p l e (headSpec wl_PM_isWithin ({ frames := 2, cells := 0, slots := 0, locals := 45 } : Room)).room s m (([.ref (ad 0), .int a1, .int a2, .int a3] : List Value).toArray) below meth c s.heap [] 0 0 (MQ below (vp_Si (fun r => r = out)) (([.ref (ad 0), .int a1, .int a2, .int a3] : List Value).toArray) s 0 0 (fun _ => False)) (F0 m 6 ls []) := by
    intro n
    induction n with
    | zero =>
      intro x2 x3 x4 x5 h
      exact absurd h (by intro z; cases z)
    | succ n ih =>
      intro x2 x3 x4 x5 h ls hl
      replace h : B_PM_isWithin_6 σ (L_PM_isWithin_6 σ n) x2 x3 x4 x5 = some out := h
      unfold B_PM_isWithin_6 at h
      refine lv_iload hx hb d_PM_isWithin_6 (lv_at hl 4 rfl) ?_
      refine lv_bipush (v := 20) hx hb d_PM_isWithin_8 (by decide) ?_
      refine lv_icmp_ge (tgt := 73) hx hb d_PM_isWithin_10 (by decide) (fun c1 => ?_) (fun c1 => ?_)
      · rw [if_pos c1] at h
        refine lv_iconst (v := 0) hx hb d_PM_isWithin_73 (by decide) ?_
        exact W.zret hx hb hr rfl (fun t ht _ => ⟨_, rfl, Option.some.inj h, ht⟩) (fun _ hq => nomatch hq) d_PM_isWithin_74
      · rw [if_neg c1] at h
        refine lv_aload_n hx hb d_PM_isWithin_13 rfl (lv_at hl 0 rfl) ?_
        refine gf_PM_26 C hP d_PM_isWithin_14 ?_
        refine lv_iload hx hb d_PM_isWithin_17 (lv_at hl 3 rfl) ?_
        refine lv_iload_n hx hb d_PM_isWithin_19 rfl (lv_at hl 2 rfl) ?_
        obtain ⟨r2, g_r2, h⟩ := ob_some h
        refine cl_PM_123 (rest := []) C (hml.trans hl.1.symm) hP g_r2 ⟨Nat.le_of_ble_eq_true rfl, Nat.le_of_ble_eq_true rfl⟩ (Nat.le_of_ble_eq_true rfl) d_PM_isWithin_20 ⟨Nat.zero_le _, Nat.zero_le _⟩ ?_
        refine lv_istore (lv' := [(6, .int r2), (0, .ref (ad 0)), (2, .int x2), (3, .int x3), (4, .int x4), (5, .int x5)]) hx hb d_PM_isWithin_23 hl (by decide) rfl (fun ls hl => ?_)
        refine lv_iload hx hb d_PM_isWithin_25 (lv_at hl 0 rfl) ?_
        refine lv_iconst (v := (-1)) hx hb d_PM_isWithin_27 (by decide) ?_
        refine lv_icmp_eq (tgt := 45) hx hb d_PM_isWithin_28 (by decide) (fun c3 => ?_) (fun c3 => ?_)
        · rw [if_pos c3] at h
          refine lv_iconst (v := 0) hx hb d_PM_isWithin_45 (by decide) ?_
          exact W.zret hx hb hr rfl (fun t ht _ => ⟨_, rfl, Option.some.inj h, ht⟩) (fun _ hq => nomatch hq) d_PM_isWithin_46
        · rw [if_neg c3] at h
          refine lv_aload_n hx hb d_PM_isWithin_31 rfl (lv_at hl 1 rfl) ?_
          refine gf_PM_26 C hP d_PM_isWithin_32 ?_
          refine gf_PM_126 C hP d_PM_isWithin_35 ?_
          refine lv_iload hx hb d_PM_isWithin_38 (lv_at hl 0 rfl) ?_
          obtain ⟨hin, h⟩ := gd_some h
          refine al_19 C hP hin d_PM_isWithin_40 ?_
          refine lv_iconst (v := 1) hx hb d_PM_isWithin_41 (by decide) ?_
          refine lv_icmp_eq (tgt := 47) hx hb d_PM_isWithin_42 (by decide) (fun c4 => ?_) (fun c4 => ?_)
          · rw [if_pos c4] at h
            refine lv_aload_n hx hb d_PM_isWithin_47 rfl (lv_at hl 1 rfl) ?_
            refine gf_PM_26 C hP d_PM_isWithin_48 ?_
            refine gf_PM_141 C hP d_PM_isWithin_51 ?_
            refine lv_iload hx hb d_PM_isWithin_54 (lv_at hl 0 rfl) ?_
            obtain ⟨hin, h⟩ := gd_some h
            refine al_20 C hP hin d_PM_isWithin_56 ?_
            obtain ⟨y5, e_y5, h⟩ := lt1_some h
            refine W.eq (g2 := F0 m 57 ls (.int y5 :: [])) (by rw [e_y5]) ?_
            refine lv_istore (lv' := [(4, .int y5), (6, .int r2), (0, .ref (ad 0)), (2, .int x2), (3, .int x3), (5, .int x5)]) hx hb d_PM_isWithin_57 hl (by decide) rfl (fun ls hl => ?_)
            refine lv_iload hx hb d_PM_isWithin_59 (lv_at hl 0 rfl) ?_
            refine lv_iload_n hx hb d_PM_isWithin_61 rfl (lv_at hl 3 rfl) ?_
            refine lv_icmp_ne (tgt := 67) hx hb d_PM_isWithin_62 (by decide) (fun c6 => ?_) (fun c6 => ?_)
            · rw [if_neg c6] at h
              refine lv_iinc (v := x5 + 1) (lv' := [(5, .int (x5 + 1)), (4, .int y5), (6, .int r2), (0, .ref (ad 0)), (2, .int x2), (3, .int x3)]) hx hb d_PM_isWithin_67 hl (k := 5) rfl rfl (by decide) rfl (fun ls hl => ?_)
              refine lv_goto (tgt := 6) hx hb d_PM_isWithin_70 (by decide) ?_
              exact ih x2 x3 y5 (x5 + 1) h _ (lv_sub hl [3, 4, 5, 1, 0] rfl)
            · rw [if_pos c6] at h
              refine lv_iconst (v := 1) hx hb d_PM_isWithin_65 (by decide) ?_
              exact W.zret hx hb hr rfl (fun t ht _ => ⟨_, rfl, Option.some.inj h, ht⟩) (fun _ hq => nomatch hq) d_PM_isWithin_66
          · rw [if_neg c4] at h
            refine lv_iconst (v := 0) hx hb d_PM_isWithin_45 (by decide) ?_
            exact W.zret hx hb hr rfl (fun t ht _ => ⟨_, rfl, Option.some.inj h, ht⟩) (fun _ hq => nomatch hq) d_PM_isWithin_46
  exact k6 _ a2 a3 a1 0 h _ (lv_sub hl [2, 4, 5, 1, 0] rfl)
section RC
variable {p : Program} {l : Launch} {e : Env} {R : Room} {s : State} {m : MethodId} {args : Array Value} {below : List Frame} {meth : Method} {c : Code} {H : Heap} {locs : List Loc} {cells slots : Nat} {Q : State → Prop}
variable {cc : ByteArray} {pc : Nat} {ls : Array Slot} {rest : List Value} {G : va_G} {ad : Nat → Nat} {cI cZ : ClassId} {σ : Sg} {own : String}
theorem cl_PM_116 (C : CX "PlaceMoves" cc p s m args c G cI cZ) (hml : c.maxLocals = ls.size) (hP : va_P G clX (wX ad cI cZ σ) H) {x1 : Int32} {x2 : Int32} {x3 : Int32} {r : Int32} (hg : f_PM_isWithin σ x1 x2 x3 = some r) (hR : 2 + 1 ≤ R.frames ∧ 8 + (7 + 11) + 45 ≤ R.locals) (hrest : (rest.map fun v => v.category).sum ≤ 8) (hd : decode cc pc = .ok (.invokevirtual 116, 3)) (hcs : cells + 0 ≤ R.cells ∧ slots + 0 ≤ R.slots) (kk : W p l e R s m args below meth c H locs cells slots Q (F0 m (pc + 3) ls (.int r :: rest))) : W p l e R s m args below meth c H locs cells slots Q (F0 m pc ls (.int x3 :: .int x2 :: .int x1 :: .ref (ad 0) :: rest)) :=
  vp_callSi (W.runV (As := [.int x1, .int x2, .int x3]) (rest := rest) ⟨C.1, C.2.1, hml, C.2.2.1, C.2.2.2.1⟩ (c_PM_isWithin l G ad cI cZ σ x1 x2 x3 r hg) (cwV 3 C.2.2.2.1 (wg_V w_458 w_460 ws_12 w_1 w_461) rfl rfl rfl (by decide +kernel) hR) ⟨PcX.blind, va_recv C.2.2.2.2.1 hP (ci := 0) (q0 := 0) rfl rfl, fun U hU hW => ⟨rfl, by rw [hU]; exact hP, C.2.2.2.2.warm hW⟩⟩ rfl rfl rfl rfl (lv_room hrest) hd hcs) (fun r' e => by subst e; exact kk)
end RC
abbrev wl_Things_isSmaller : List Cond := .code ⟨"PlaceMoves$Things", "isSmaller", "(II)Z"⟩ prog_7_method_3_code 3 (some FieldType.boolean) :: WG
set_option maxHeartbeats 4000000 in
set_option maxRecDepth 100000 in
theorem c_Things_isSmaller (l : Launch) (G : va_G) (ad : Nat → Nat) (cI cZ : ClassId) (σ : Sg) (a1 : Int32) (a2 : Int32) (out : Int32) (h : f_Things_isSmaller σ a1 a2 = some out) : Met l ⟨"PlaceMoves$Things", "isSmaller", "(II)Z"⟩ wl_Things_isSmaller ({ frames := 0, cells := 0, slots := 0, locals := 0 } : Room) (PcX G ad cI cZ σ [.ref (ad 2), .int a1, .int a2]) (vp_Si (fun r => r = out)) 0 0 (fun _ => False) := by
  refine Met.ofW (cc := prog_7_method_3_code) (maxL := 3) (ret := (some FieldType.boolean)) (by decide) rfl ?_
  intro p e s m args below meth c s₁ B hml hv
  obtain ⟨rfl, hP, hK⟩ := hv
  have hx := B.exec
  have hb := B.bytes
  have hr := B.returns
  have hts0 := atoms_spec (ws := wl_Things_isSmaller) B.pre
  have hts : ∀ w ∈ WG, w.before _ s = true := fun w hw => hts0 w (List.mem_cons_of_mem _ hw)
  have hown : s.vm.findClass "PlaceMoves$Things" = some m.cls := findClass_of_methodNamed B.named
  have hlocks := B.notSynchronized
  have C : CX "PlaceMoves$Things" prog_7_method_3_code p s m _ c G cI cZ := ⟨hx, hb, hown, hts, hK⟩
  have hl := lv_entry ([.ref (ad 2), .int a1, .int a2]) (n := 3) (Nat.le_of_ble_eq_true rfl)
  rw [lg_entry_eq]
  generalize (lg_sl ([.ref (ad 2), .int a1, .int a2]) ++ List.replicate (3 - (lg_sl ([.ref (ad 2), .int a1, .int a2])).length) Slot.unset).toArray = ls at hl ⊢
  have hl : lv_has ls 3 [(0, .ref (ad 2)), (1, .int a1), (2, .int a2)] := hl
  unfold f_Things_isSmaller at h
  refine lv_aload_n hx hb d_Things_isSmaller_0 rfl (lv_at hl 0 rfl) ?_
  refine gf_Things_9 C hP d_Things_isSmaller_1 ?_
  refine lv_iload_n hx hb d_Things_isSmaller_4 rfl (lv_at hl 1 rfl) ?_
  obtain ⟨hin, h⟩ := gd_some h
  refine al_11 C hP hin d_Things_isSmaller_5 ?_
  refine lv_aload_n hx hb d_Things_isSmaller_6 rfl (lv_at hl 0 rfl) ?_
  refine gf_Things_9 C hP d_Things_isSmaller_7 ?_
  refine lv_iload_n hx hb d_Things_isSmaller_10 rfl (lv_at hl 2 rfl) ?_
  obtain ⟨hin, h⟩ := gd_some h
  refine al_11 C hP hin d_Things_isSmaller_11 ?_
  refine lv_icmp_ge (tgt := 49) hx hb d_Things_isSmaller_12 (by decide) (fun c1 => ?_) (fun c1 => ?_)
  · rw [if_pos c1] at h
    refine lv_iconst (v := 0) hx hb d_Things_isSmaller_49 (by decide) ?_
    exact W.zret hx hb hr rfl (fun t ht _ => ⟨_, rfl, Option.some.inj h, ht⟩) (fun _ hq => nomatch hq) d_Things_isSmaller_50
  · rw [if_neg c1] at h
    refine lv_aload_n hx hb d_Things_isSmaller_15 rfl (lv_at hl 0 rfl) ?_
    refine gf_Things_15 C hP d_Things_isSmaller_16 ?_
    refine lv_iload_n hx hb d_Things_isSmaller_19 rfl (lv_at hl 1 rfl) ?_
    obtain ⟨hin, h⟩ := gd_some h
    refine al_12 C hP hin d_Things_isSmaller_20 ?_
    refine lv_aload_n hx hb d_Things_isSmaller_21 rfl (lv_at hl 0 rfl) ?_
    refine gf_Things_15 C hP d_Things_isSmaller_22 ?_
    refine lv_iload_n hx hb d_Things_isSmaller_25 rfl (lv_at hl 2 rfl) ?_
    obtain ⟨hin, h⟩ := gd_some h
    refine al_12 C hP hin d_Things_isSmaller_26 ?_
    refine lv_icmp_ge (tgt := 49) hx hb d_Things_isSmaller_27 (by decide) (fun c2 => ?_) (fun c2 => ?_)
    · rw [if_pos c2] at h
      refine lv_iconst (v := 0) hx hb d_Things_isSmaller_49 (by decide) ?_
      exact W.zret hx hb hr rfl (fun t ht _ => ⟨_, rfl, Option.some.inj h, ht⟩) (fun _ hq => nomatch hq) d_Things_isSmaller_50
    · rw [if_neg c2] at h
      refine lv_aload_n hx hb d_Things_isSmaller_30 rfl (lv_at hl 0 rfl) ?_
      refine gf_Things_18 C hP d_Things_isSmaller_31 ?_
      refine lv_iload_n hx hb d_Things_isSmaller_34 rfl (lv_at hl 1 rfl) ?_
      obtain ⟨hin, h⟩ := gd_some h
      refine al_13 C hP hin d_Things_isSmaller_35 ?_
      refine lv_aload_n hx hb d_Things_isSmaller_36 rfl (lv_at hl 0 rfl) ?_
      refine gf_Things_18 C hP d_Things_isSmaller_37 ?_
      refine lv_iload_n hx hb d_Things_isSmaller_40 rfl (lv_at hl 2 rfl) ?_
      obtain ⟨hin, h⟩ := gd_some h
      refine al_13 C hP hin d_Things_isSmaller_41 ?_
      refine lv_icmp_ge (tgt := 49) hx hb d_Things_isSmaller_42 (by decide) (fun c3 => ?_) (fun c3 => ?_)
      · rw [if_pos c3] at h
        refine lv_iconst (v := 0) hx hb d_Things_isSmaller_49 (by decide) ?_
        exact W.zret hx hb hr rfl (fun t ht _ => ⟨_, rfl, Option.some.inj h, ht⟩) (fun _ hq => nomatch hq) d_Things_isSmaller_50
      · rw [if_neg c3] at h
        refine lv_iconst (v := 1) hx hb d_Things_isSmaller_45 (by decide) ?_
        refine lv_goto (tgt := 50) hx hb d_Things_isSmaller_46 (by decide) ?_
        exact W.zret hx hb hr rfl (fun t ht _ => ⟨_, rfl, Option.some.inj h, ht⟩) (fun _ hq => nomatch hq) d_Things_isSmaller_50
section RC
variable {p : Program} {l : Launch} {e : Env} {R : Room} {s : State} {m : MethodId} {args : Array Value} {below : List Frame} {meth : Method} {c : Code} {H : Heap} {locs : List Loc} {cells slots : Nat} {Q : State → Prop}
variable {cc : ByteArray} {pc : Nat} {ls : Array Slot} {rest : List Value} {G : va_G} {ad : Nat → Nat} {cI cZ : ClassId} {σ : Sg} {own : String}
theorem cl_PM_119 (C : CX "PlaceMoves" cc p s m args c G cI cZ) (hml : c.maxLocals = ls.size) (hP : va_P G clX (wX ad cI cZ σ) H) {x1 : Int32} {x2 : Int32} {r : Int32} (hg : f_Things_isSmaller σ x1 x2 = some r) (hR : 0 + 1 ≤ R.frames ∧ 8 + (3 + 11) + 0 ≤ R.locals) (hrest : (rest.map fun v => v.category).sum ≤ 8) (hd : decode cc pc = .ok (.invokevirtual 119, 3)) (hcs : cells + 0 ≤ R.cells ∧ slots + 0 ≤ R.slots) (kk : W p l e R s m args below meth c H locs cells slots Q (F0 m (pc + 3) ls (.int r :: rest))) : W p l e R s m args below meth c H locs cells slots Q (F0 m pc ls (.int x2 :: .int x1 :: .ref (ad 2) :: rest)) :=
  vp_callSi (W.runV (As := [.int x1, .int x2]) (rest := rest) ⟨C.1, C.2.1, hml, C.2.2.1, C.2.2.2.1⟩ (c_Things_isSmaller l G ad cI cZ σ x1 x2 r hg) (cwV 2 C.2.2.2.1 (wg_V w_462 w_463 w_464 w_3 w_465) rfl rfl rfl (by decide +kernel) hR) ⟨PcX.blind, va_recv C.2.2.2.2.1 hP (ci := 2) (q0 := 2) rfl rfl, fun U hU hW => ⟨rfl, by rw [hU]; exact hP, C.2.2.2.2.warm hW⟩⟩ rfl rfl rfl rfl (lv_room hrest) hd hcs) (fun r' e => by subst e; exact kk)
end RC
abbrev wl_PM_standsSince : List Cond := .code ⟨"PlaceMoves", "standsSince", "(II)I"⟩ prog_1_method_28_code 7 (some FieldType.int) :: WG
set_option maxHeartbeats 4000000 in
set_option maxRecDepth 100000 in
theorem c_PM_standsSince (l : Launch) (G : va_G) (ad : Nat → Nat) (cI cZ : ClassId) (σ : Sg) (a1 : Int32) (a2 : Int32) (out : Int32) (h : f_PM_standsSince σ a1 a2 = some out) : Met l ⟨"PlaceMoves", "standsSince", "(II)I"⟩ wl_PM_standsSince ({ frames := 2, cells := 0, slots := 0, locals := 45 } : Room) (PcX G ad cI cZ σ [.ref (ad 0), .int a1, .int a2]) (vp_Si (fun r => r = out)) 0 0 (fun _ => False) := by
  refine Met.ofW (cc := prog_1_method_28_code) (maxL := 7) (ret := (some FieldType.int)) (by decide) rfl ?_
  intro p e s m args below meth c s₁ B hml hv
  obtain ⟨rfl, hP, hK⟩ := hv
  have hx := B.exec
  have hb := B.bytes
  have hr := B.returns
  have hts0 := atoms_spec (ws := wl_PM_standsSince) B.pre
  have hts : ∀ w ∈ WG, w.before _ s = true := fun w hw => hts0 w (List.mem_cons_of_mem _ hw)
  have hown : s.vm.findClass "PlaceMoves" = some m.cls := findClass_of_methodNamed B.named
  have hlocks := B.notSynchronized
  have C : CX "PlaceMoves" prog_1_method_28_code p s m _ c G cI cZ := ⟨hx, hb, hown, hts, hK⟩
  have hl := lv_entry ([.ref (ad 0), .int a1, .int a2]) (n := 7) (Nat.le_of_ble_eq_true rfl)
  rw [lg_entry_eq]
  generalize (lg_sl ([.ref (ad 0), .int a1, .int a2]) ++ List.replicate (7 - (lg_sl ([.ref (ad 0), .int a1, .int a2])).length) Slot.unset).toArray = ls at hl ⊢
  have hl : lv_has ls 7 [(0, .ref (ad 0)), (1, .int a1), (2, .int a2)] := hl
  unfold f_PM_standsSince at h
  refine lv_iconst (v := (-1)) hx hb d_PM_standsSince_0 (by decide) ?_
  refine lv_istore_n (lv' := [(3, .int ((-1))), (0, .ref (ad 0)), (1, .int a1), (2, .int a2)]) hx hb d_PM_standsSince_1 rfl hl (by decide) rfl (fun ls hl => ?_)
  refine lv_iload_n hx hb d_PM_standsSince_2 rfl (lv_at hl 2 rfl) ?_
  refine lv_istore (lv' := [(4, .int a1), (3, .int ((-1))), (0, .ref (ad 0)), (1, .int a1), (2, .int a2)]) hx hb d_PM_standsSince_3 hl (by decide) rfl (fun ls hl => ?_)
  refine lv_iconst (v := 0) hx hb d_PM_standsSince_5 (by decide) ?_
  refine lv_istore (lv' := [(5, .int 0), (4, .int a1), (3, .int ((-1))), (0, .ref (ad 0)), (1, .int a1), (2, .int a2)]) hx hb d_PM_standsSince_6 hl (by decide) rfl (fun ls hl => ?_)
  have k8 : ∀ (n : Nat) (x2 : Int32) (x3 : Int32) (x4 : Int32) (x5 : Int32) (h : L_PM_standsSince_8 σ n x2 x3 x4 x5 = some out) (ls : Array Slot) (hl : lv_has ls 7 [(0, .ref (ad 0)), (2, .int x2), (3, .int x3), (4, .int x4), (5, .int x5)]), W p l e (headSpec wl_PM_standsSince ({ frames := 2, cells := 0, slots := 0, locals := 45 } : Room)).room s m (([.ref (ad 0), .int a1, .int a2] : List Value).toArray) below meth c s.heap [] 0 0 (MQ below (vp_Si (fun r => r = out)) (([.ref (ad 0), .int a1, .int a2] : List Value).toArray) s 0 0 (fun _ => False)) (F0 m 8 ls []) := by
    intro n
    induction n with
    | zero =>
      intro x2 x3 x4 x5 h
      exact absurd h (by intro z; cases z)
    | succ n ih =>
      intro x2 x3 x4 x5 h ls hl
      replace h : B_PM_standsSince_8 σ (L_PM_standsSince_8 σ n) x2 x3 x4 x5 = some out := h
      unfold B_PM_standsSince_8 at h
      refine lv_iload hx hb d_PM_standsSince_8 (lv_at hl 4 rfl) ?_
      refine lv_bipush (v := 20) hx hb d_PM_standsSince_10 (by decide) ?_
      refine lv_icmp_ge (tgt := 84) hx hb d_PM_standsSince_12 (by decide) (fun c1 => ?_) (fun c1 => ?_)
      · rw [if_pos c1] at h
        refine lv_iload_n hx hb d_PM_standsSince_84 rfl (lv_at hl 2 rfl) ?_
        exact W.iret hx hb hr (fun t ht _ => ⟨_, rfl, Option.some.inj h, ht⟩) (fun _ hq => nomatch hq) d_PM_standsSince_85
      · rw [if_neg c1] at h
        refine lv_aload_n hx hb d_PM_standsSince_15 rfl (lv_at hl 0 rfl) ?_
        refine gf_PM_26 C hP d_PM_standsSince_16 ?_
        refine lv_iload hx hb d_PM_standsSince_19 (lv_at hl 3 rfl) ?_
        refine lv_iload_n hx hb d_PM_standsSince_21 rfl (lv_at hl 1 rfl) ?_
        obtain ⟨r2, g_r2, h⟩ := ob_some h
        refine cl_PM_123 (rest := []) C (hml.trans hl.1.symm) hP g_r2 ⟨Nat.le_of_ble_eq_true rfl, Nat.le_of_ble_eq_true rfl⟩ (Nat.le_of_ble_eq_true rfl) d_PM_standsSince_22 ⟨Nat.zero_le _, Nat.zero_le _⟩ ?_
        refine lv_istore (lv' := [(6, .int r2), (0, .ref (ad 0)), (2, .int x2), (3, .int x3), (4, .int x4), (5, .int x5)]) hx hb d_PM_standsSince_25 hl (by decide) rfl (fun ls hl => ?_)
        refine lv_iload hx hb d_PM_standsSince_27 (lv_at hl 0 rfl) ?_
        refine lv_iconst (v := (-1)) hx hb d_PM_standsSince_29 (by decide) ?_
        refine lv_icmp_ne (tgt := 35) hx hb d_PM_standsSince_30 (by decide) (fun c3 => ?_) (fun c3 => ?_)
        · rw [if_neg c3] at h
          refine lv_iload_n hx hb d_PM_standsSince_35 rfl (lv_at hl 3 rfl) ?_
          refine lv_aload_n hx hb d_PM_standsSince_36 rfl (lv_at hl 1 rfl) ?_
          refine gf_PM_26 C hP d_PM_standsSince_37 ?_
          refine gf_PM_138 C hP d_PM_standsSince_40 ?_
          refine lv_iload hx hb d_PM_standsSince_43 (lv_at hl 0 rfl) ?_
          obtain ⟨hin, h⟩ := gd_some h
          refine al_18 C hP hin d_PM_standsSince_45 ?_
          refine mm_PM_205 (rest := []) C (hml.trans hl.1.symm) ⟨Nat.le_of_ble_eq_true rfl, Nat.le_of_ble_eq_true rfl⟩ (Nat.le_of_ble_eq_true rfl) d_PM_standsSince_46 ⟨Nat.zero_le _, Nat.zero_le _⟩ ?_
          obtain ⟨y4, e_y4, h⟩ := lt1_some h
          refine W.eq (g2 := F0 m 49 ls (.int y4 :: [])) (by rw [e_y4]) ?_
          refine lv_istore_n (lv' := [(3, .int y4), (6, .int r2), (0, .ref (ad 0)), (2, .int x2), (4, .int x4), (5, .int x5)]) hx hb d_PM_standsSince_49 rfl hl (by decide) rfl (fun ls hl => ?_)
          refine lv_aload_n hx hb d_PM_standsSince_50 rfl (lv_at hl 2 rfl) ?_
          refine gf_PM_26 C hP d_PM_standsSince_51 ?_
          refine gf_PM_126 C hP d_PM_standsSince_54 ?_
          refine lv_iload hx hb d_PM_standsSince_57 (lv_at hl 1 rfl) ?_
          obtain ⟨hin, h⟩ := gd_some h
          refine al_19 C hP hin d_PM_standsSince_59 ?_
          refine lv_iconst (v := 1) hx hb d_PM_standsSince_60 (by decide) ?_
          refine lv_icmp_eq (tgt := 66) hx hb d_PM_standsSince_61 (by decide) (fun c5 => ?_) (fun c5 => ?_)
          · rw [if_pos c5] at h
            refine lv_aload_n hx hb d_PM_standsSince_66 rfl (lv_at hl 2 rfl) ?_
            refine gf_PM_26 C hP d_PM_standsSince_67 ?_
            refine gf_PM_141 C hP d_PM_standsSince_70 ?_
            refine lv_iload hx hb d_PM_standsSince_73 (lv_at hl 1 rfl) ?_
            obtain ⟨hin, h⟩ := gd_some h
            refine al_20 C hP hin d_PM_standsSince_75 ?_
            obtain ⟨y6, e_y6, h⟩ := lt1_some h
            refine W.eq (g2 := F0 m 76 ls (.int y6 :: [])) (by rw [e_y6]) ?_
            refine lv_istore (lv' := [(4, .int y6), (3, .int y4), (6, .int r2), (0, .ref (ad 0)), (2, .int x2), (5, .int x5)]) hx hb d_PM_standsSince_76 hl (by decide) rfl (fun ls hl => ?_)
            refine lv_iinc (v := x5 + 1) (lv' := [(5, .int (x5 + 1)), (4, .int y6), (3, .int y4), (6, .int r2), (0, .ref (ad 0)), (2, .int x2)]) hx hb d_PM_standsSince_78 hl (k := 5) rfl rfl (by decide) rfl (fun ls hl => ?_)
            refine lv_goto (tgt := 8) hx hb d_PM_standsSince_81 (by decide) ?_
            exact ih x2 y4 y6 (x5 + 1) h _ (lv_sub hl [4, 5, 2, 1, 0] rfl)
          · rw [if_neg c5] at h
            refine lv_iload_n hx hb d_PM_standsSince_64 rfl (lv_at hl 0 rfl) ?_
            exact W.iret hx hb hr (fun t ht _ => ⟨_, rfl, Option.some.inj h, ht⟩) (fun _ hq => nomatch hq) d_PM_standsSince_65
        · rw [if_pos c3] at h
          refine lv_iload_n hx hb d_PM_standsSince_33 rfl (lv_at hl 3 rfl) ?_
          exact W.iret hx hb hr (fun t ht _ => ⟨_, rfl, Option.some.inj h, ht⟩) (fun _ hq => nomatch hq) d_PM_standsSince_34
  exact k8 _ a2 ((-1)) a1 0 h _ (lv_sub hl [3, 5, 2, 1, 0] rfl)
section RC
variable {p : Program} {l : Launch} {e : Env} {R : Room} {s : State} {m : MethodId} {args : Array Value} {below : List Frame} {meth : Method} {c : Code} {H : Heap} {locs : List Loc} {cells slots : Nat} {Q : State → Prop}
variable {cc : ByteArray} {pc : Nat} {ls : Array Slot} {rest : List Value} {G : va_G} {ad : Nat → Nat} {cI cZ : ClassId} {σ : Sg} {own : String}
theorem cl_PM_129 (C : CX "PlaceMoves" cc p s m args c G cI cZ) (hml : c.maxLocals = ls.size) (hP : va_P G clX (wX ad cI cZ σ) H) {x1 : Int32} {x2 : Int32} {r : Int32} (hg : f_PM_standsSince σ x1 x2 = some r) (hR : 2 + 1 ≤ R.frames ∧ 8 + (7 + 11) + 45 ≤ R.locals) (hrest : (rest.map fun v => v.category).sum ≤ 8) (hd : decode cc pc = .ok (.invokevirtual 129, 3)) (hcs : cells + 0 ≤ R.cells ∧ slots + 0 ≤ R.slots) (kk : W p l e R s m args below meth c H locs cells slots Q (F0 m (pc + 3) ls (.int r :: rest))) : W p l e R s m args below meth c H locs cells slots Q (F0 m pc ls (.int x2 :: .int x1 :: .ref (ad 0) :: rest)) :=
  vp_callSi (W.runV (As := [.int x1, .int x2]) (rest := rest) ⟨C.1, C.2.1, hml, C.2.2.1, C.2.2.2.1⟩ (c_PM_standsSince l G ad cI cZ σ x1 x2 r hg) (cwV 2 C.2.2.2.1 (wg_V w_487 w_489 ws_13 w_1 w_490) rfl rfl rfl (by decide +kernel) hR) ⟨PcX.blind, va_recv C.2.2.2.2.1 hP (ci := 0) (q0 := 0) rfl rfl, fun U hU hW => ⟨rfl, by rw [hU]; exact hP, C.2.2.2.2.warm hW⟩⟩ rfl rfl rfl rfl (lv_room hrest) hd hcs) (fun r' e => by subst e; exact kk)
end RC
abbrev wl_Doors_goesTurned : List Cond := .code ⟨"PlaceMoves$Doors", "goesTurned", "(JJJJ)Z"⟩ prog_2_method_4_code 14 (some FieldType.boolean) :: WG
set_option maxHeartbeats 4000000 in
set_option maxRecDepth 100000 in
theorem c_Doors_goesTurned (l : Launch) (G : va_G) (ad : Nat → Nat) (cI cZ : ClassId) (σ : Sg) (a0 : Int64) (a2 : Int64) (a4 : Int64) (a6 : Int64) (out : Int32) (h : f_Doors_goesTurned σ a0 a2 a4 a6 = some out) : Met l ⟨"PlaceMoves$Doors", "goesTurned", "(JJJJ)Z"⟩ wl_Doors_goesTurned ({ frames := 0, cells := 0, slots := 0, locals := 0 } : Room) (PcX G ad cI cZ σ [.long a0, .long a2, .long a4, .long a6]) (vp_Si (fun r => r = out)) 0 0 (fun _ => False) := by
  refine Met.ofW (cc := prog_2_method_4_code) (maxL := 14) (ret := (some FieldType.boolean)) (by decide) rfl ?_
  intro p e s m args below meth c s₁ B hml hv
  obtain ⟨rfl, hP, hK⟩ := hv
  have hx := B.exec
  have hb := B.bytes
  have hr := B.returns
  have hts0 := atoms_spec (ws := wl_Doors_goesTurned) B.pre
  have hts : ∀ w ∈ WG, w.before _ s = true := fun w hw => hts0 w (List.mem_cons_of_mem _ hw)
  have hown : s.vm.findClass "PlaceMoves$Doors" = some m.cls := findClass_of_methodNamed B.named
  have hlocks := B.notSynchronized
  have C : CX "PlaceMoves$Doors" prog_2_method_4_code p s m _ c G cI cZ := ⟨hx, hb, hown, hts, hK⟩
  have hl := lv_entry ([.long a0, .long a2, .long a4, .long a6]) (n := 14) (Nat.le_of_ble_eq_true rfl)
  rw [lg_entry_eq]
  generalize (lg_sl ([.long a0, .long a2, .long a4, .long a6]) ++ List.replicate (14 - (lg_sl ([.long a0, .long a2, .long a4, .long a6])).length) Slot.unset).toArray = ls at hl ⊢
  have hl : lv_has ls 14 [(0, .long a0), (2, .long a2), (4, .long a4), (6, .long a6)] := hl
  unfold f_Doors_goesTurned at h
  refine lv_lload_n hx hb d_Doors_goesTurned_0 rfl (lv_at hl 0 rfl) ?_
  refine lv_lload_n hx hb d_Doors_goesTurned_1 rfl (lv_at hl 1 rfl) ?_
  refine lv_ladd hx hb d_Doors_goesTurned_2 ?_
  refine lv_lload hx hb d_Doors_goesTurned_3 (lv_at hl 2 rfl) ?_
  refine lv_lload hx hb d_Doors_goesTurned_5 (lv_at hl 3 rfl) ?_
  refine lv_lsub hx hb d_Doors_goesTurned_7 ?_
  refine lv_lmul hx hb d_Doors_goesTurned_8 ?_
  obtain ⟨y1, e_y1, h⟩ := lt1_some h
  refine W.eq (g2 := F0 m 9 ls (.long y1 :: [])) (by rw [e_y1]) ?_
  refine lv_lstore (lv' := [(8, .long y1), (0, .long a0), (2, .long a2), (4, .long a4), (6, .long a6)]) hx hb d_Doors_goesTurned_9 hl (by decide) rfl (fun ls hl => ?_)
  refine lv_lload_n hx hb d_Doors_goesTurned_11 rfl (lv_at hl 1 rfl) ?_
  refine lv_lload_n hx hb d_Doors_goesTurned_12 rfl (lv_at hl 2 rfl) ?_
  refine lv_lsub hx hb d_Doors_goesTurned_13 ?_
  refine lv_lload hx hb d_Doors_goesTurned_14 (lv_at hl 3 rfl) ?_
  refine lv_lload hx hb d_Doors_goesTurned_16 (lv_at hl 4 rfl) ?_
  refine lv_ladd hx hb d_Doors_goesTurned_18 ?_
  refine lv_lmul hx hb d_Doors_goesTurned_19 ?_
  obtain ⟨y2, e_y2, h⟩ := lt1_some h
  refine W.eq (g2 := F0 m 20 ls (.long y2 :: [])) (by rw [e_y2]) ?_
  refine lv_lstore (lv' := [(10, .long y2), (8, .long y1), (0, .long a0), (2, .long a2), (4, .long a4), (6, .long a6)]) hx hb d_Doors_goesTurned_20 hl (by decide) rfl (fun ls hl => ?_)
  refine lv_lload hx hb d_Doors_goesTurned_22 (lv_at hl 4 rfl) ?_
  refine lv_lload hx hb d_Doors_goesTurned_24 (lv_at hl 4 rfl) ?_
  refine lv_lmul hx hb d_Doors_goesTurned_26 ?_
  refine lv_lload hx hb d_Doors_goesTurned_27 (lv_at hl 5 rfl) ?_
  refine lv_lload hx hb d_Doors_goesTurned_29 (lv_at hl 5 rfl) ?_
  refine lv_lmul hx hb d_Doors_goesTurned_31 ?_
  refine lv_lsub hx hb d_Doors_goesTurned_32 ?_
  obtain ⟨y3, e_y3, h⟩ := lt1_some h
  refine W.eq (g2 := F0 m 33 ls (.long y3 :: [])) (by rw [e_y3]) ?_
  refine lv_lstore (lv' := [(12, .long y3), (10, .long y2), (8, .long y1), (0, .long a0), (2, .long a2), (4, .long a4), (6, .long a6)]) hx hb d_Doors_goesTurned_33 hl (by decide) rfl (fun ls hl => ?_)
  refine lv_lload hx hb d_Doors_goesTurned_35 (lv_at hl 2 rfl) ?_
  refine lv_lload hx hb d_Doors_goesTurned_37 (lv_at hl 2 rfl) ?_
  refine lv_lmul hx hb d_Doors_goesTurned_39 ?_
  refine lv_lload hx hb d_Doors_goesTurned_40 (lv_at hl 1 rfl) ?_
  refine lv_lload hx hb d_Doors_goesTurned_42 (lv_at hl 1 rfl) ?_
  refine lv_lmul hx hb d_Doors_goesTurned_44 ?_
  refine lv_ladd hx hb d_Doors_goesTurned_45 ?_
  refine lv_ldc2 (v := 2) hx hb hown (hts _ w_532) d_Doors_goesTurned_46 ?_
  refine lv_lload hx hb d_Doors_goesTurned_49 (lv_at hl 0 rfl) ?_
  refine lv_lmul hx hb d_Doors_goesTurned_51 ?_
  refine lv_lload hx hb d_Doors_goesTurned_52 (lv_at hl 0 rfl) ?_
  refine lv_lmul hx hb d_Doors_goesTurned_54 ?_
  refine W.lcmp hx hb d_Doors_goesTurned_55 ?_
  refine lv_if_lt (tgt := 63) hx hb d_Doors_goesTurned_56 (by decide) (fun c4 => ?_) (fun c4 => ?_)
  · rw [if_pos c4] at h
    refine lv_iconst (v := 0) hx hb d_Doors_goesTurned_63 (by decide) ?_
    exact W.zret hx hb hr rfl (fun t ht _ => ⟨_, rfl, Option.some.inj h, ht⟩) (fun _ hq => nomatch hq) d_Doors_goesTurned_64
  · rw [if_neg c4] at h
    refine lv_iconst (v := 1) hx hb d_Doors_goesTurned_59 (by decide) ?_
    refine lv_goto (tgt := 64) hx hb d_Doors_goesTurned_60 (by decide) ?_
    exact W.zret hx hb hr rfl (fun t ht _ => ⟨_, rfl, Option.some.inj h, ht⟩) (fun _ hq => nomatch hq) d_Doors_goesTurned_64
section RC
variable {p : Program} {l : Launch} {e : Env} {R : Room} {s : State} {m : MethodId} {args : Array Value} {below : List Frame} {meth : Method} {c : Code} {H : Heap} {locs : List Loc} {cells slots : Nat} {Q : State → Prop}
variable {cc : ByteArray} {pc : Nat} {ls : Array Slot} {rest : List Value} {G : va_G} {ad : Nat → Nat} {cI cZ : ClassId} {σ : Sg} {own : String}
theorem cl_Doors_37 (C : CX "PlaceMoves$Doors" cc p s m args c G cI cZ) (hml : c.maxLocals = ls.size) (hP : va_P G clX (wX ad cI cZ σ) H) {x0 : Int64} {x2 : Int64} {x4 : Int64} {x6 : Int64} {r : Int32} (hg : f_Doors_goesTurned σ x0 x2 x4 x6 = some r) (hR : 0 + 1 ≤ R.frames ∧ 8 + (14 + 11) + 0 ≤ R.locals) (hrest : (rest.map fun v => v.category).sum ≤ 8) (hd : decode cc pc = .ok (.invokestatic 37, 3)) (hcs : cells + 0 ≤ R.cells ∧ slots + 0 ≤ R.slots) (kk : W p l e R s m args below meth c H locs cells slots Q (F0 m (pc + 3) ls (.int r :: rest))) : W p l e R s m args below meth c H locs cells slots Q (F0 m pc ls (.long x6 :: .long x4 :: .long x2 :: .long x0 :: rest)) :=
  vp_callSi (W.runS (As := [.long x0, .long x2, .long x4, .long x6]) (rest := rest) ⟨C.1, C.2.1, hml, C.2.2.1, C.2.2.2.1⟩ (c_Doors_goesTurned l G ad cI cZ σ x0 x2 x4 x6 r hg) (va_cwS 4 C.2.2.2.1 (wg_S w_529 w_530 w_5 w_531) rfl rfl rfl (by decide +kernel) hR) ⟨PcX.blind, fun U hU hW => ⟨rfl, by rw [hU]; exact hP, C.2.2.2.2.warm hW⟩⟩ rfl rfl rfl rfl (lv_room hrest) hd hcs) (fun r' e => by subst e; exact kk)
end RC
abbrev wl_Doors_letsThrough : List Cond := .code ⟨"PlaceMoves$Doors", "letsThrough", "(III)Z"⟩ prog_2_method_3_code 4 (some FieldType.boolean) :: WG
set_option maxHeartbeats 4000000 in
set_option maxRecDepth 100000 in
theorem c_Doors_letsThrough (l : Launch) (G : va_G) (ad : Nat → Nat) (cI cZ : ClassId) (σ : Sg) (a1 : Int32) (a2 : Int32) (a3 : Int32) (out : Int32) (h : f_Doors_letsThrough σ a1 a2 a3 = some out) : Met l ⟨"PlaceMoves$Doors", "letsThrough", "(III)Z"⟩ wl_Doors_letsThrough ({ frames := 1, cells := 0, slots := 0, locals := 33 } : Room) (PcX G ad cI cZ σ [.ref (ad 4), .int a1, .int a2, .int a3]) (vp_Si (fun r => r = out)) 0 0 (fun _ => False) := by
  refine Met.ofW (cc := prog_2_method_3_code) (maxL := 4) (ret := (some FieldType.boolean)) (by decide) rfl ?_
  intro p e s m args below meth c s₁ B hml hv
  obtain ⟨rfl, hP, hK⟩ := hv
  have hx := B.exec
  have hb := B.bytes
  have hr := B.returns
  have hts0 := atoms_spec (ws := wl_Doors_letsThrough) B.pre
  have hts : ∀ w ∈ WG, w.before _ s = true := fun w hw => hts0 w (List.mem_cons_of_mem _ hw)
  have hown : s.vm.findClass "PlaceMoves$Doors" = some m.cls := findClass_of_methodNamed B.named
  have hlocks := B.notSynchronized
  have C : CX "PlaceMoves$Doors" prog_2_method_3_code p s m _ c G cI cZ := ⟨hx, hb, hown, hts, hK⟩
  have hl := lv_entry ([.ref (ad 4), .int a1, .int a2, .int a3]) (n := 4) (Nat.le_of_ble_eq_true rfl)
  rw [lg_entry_eq]
  generalize (lg_sl ([.ref (ad 4), .int a1, .int a2, .int a3]) ++ List.replicate (4 - (lg_sl ([.ref (ad 4), .int a1, .int a2, .int a3])).length) Slot.unset).toArray = ls at hl ⊢
  have hl : lv_has ls 4 [(0, .ref (ad 4)), (1, .int a1), (2, .int a2), (3, .int a3)] := hl
  unfold f_Doors_letsThrough at h
  refine lv_iload_n hx hb d_Doors_letsThrough_0 rfl (lv_at hl 3 rfl) ?_
  refine lv_aload_n hx hb d_Doors_letsThrough_1 rfl (lv_at hl 0 rfl) ?_
  refine gf_Doors_21 C hP d_Doors_letsThrough_2 ?_
  refine lv_iload_n hx hb d_Doors_letsThrough_5 rfl (lv_at hl 1 rfl) ?_
  obtain ⟨hin, h⟩ := gd_some h
  refine al_24 C hP hin d_Doors_letsThrough_6 ?_
  refine lv_icmp_le (tgt := 12) hx hb d_Doors_letsThrough_7 (by decide) (fun c1 => ?_) (fun c1 => ?_)
  · rw [if_pos c1] at h
    refine lv_iload_n hx hb d_Doors_letsThrough_12 rfl (lv_at hl 2 rfl) ?_
    refine lv_aload_n hx hb d_Doors_letsThrough_13 rfl (lv_at hl 0 rfl) ?_
    refine gf_Doors_18 C hP d_Doors_letsThrough_14 ?_
    refine lv_iload_n hx hb d_Doors_letsThrough_17 rfl (lv_at hl 1 rfl) ?_
    obtain ⟨hin, h⟩ := gd_some h
    refine al_23 C hP hin d_Doors_letsThrough_18 ?_
    refine lv_icmp_le (tgt := 46) hx hb d_Doors_letsThrough_19 (by decide) (fun c2 => ?_) (fun c2 => ?_)
    · rw [if_pos c2] at h
      refine lv_iconst (v := 1) hx hb d_Doors_letsThrough_46 (by decide) ?_
      refine lv_goto (tgt := 51) hx hb d_Doors_letsThrough_47 (by decide) ?_
      exact W.zret hx hb hr rfl (fun t ht _ => ⟨_, rfl, Option.some.inj h, ht⟩) (fun _ hq => nomatch hq) d_Doors_letsThrough_51
    · rw [if_neg c2] at h
      refine lv_aload_n hx hb d_Doors_letsThrough_22 rfl (lv_at hl 0 rfl) ?_
      refine gf_Doors_18 C hP d_Doors_letsThrough_23 ?_
      refine lv_iload_n hx hb d_Doors_letsThrough_26 rfl (lv_at hl 1 rfl) ?_
      obtain ⟨hin, h⟩ := gd_some h
      refine al_23 C hP hin d_Doors_letsThrough_27 ?_
      refine lv_i2l (v := Int32.toInt64 (σ 23 (Int32.toNatClampNeg a1))) hx hb d_Doors_letsThrough_28 rfl ?_
      refine lv_aload_n hx hb d_Doors_letsThrough_29 rfl (lv_at hl 0 rfl) ?_
      refine gf_Doors_21 C hP d_Doors_letsThrough_30 ?_
      refine lv_iload_n hx hb d_Doors_letsThrough_33 rfl (lv_at hl 1 rfl) ?_
      obtain ⟨hin, h⟩ := gd_some h
      refine al_24 C hP hin d_Doors_letsThrough_34 ?_
      refine lv_i2l (v := Int32.toInt64 (σ 24 (Int32.toNatClampNeg a1))) hx hb d_Doors_letsThrough_35 rfl ?_
      refine lv_iload_n hx hb d_Doors_letsThrough_36 rfl (lv_at hl 2 rfl) ?_
      refine lv_i2l (v := Int32.toInt64 a2) hx hb d_Doors_letsThrough_37 rfl ?_
      refine lv_iload_n hx hb d_Doors_letsThrough_38 rfl (lv_at hl 3 rfl) ?_
      refine lv_i2l (v := Int32.toInt64 a3) hx hb d_Doors_letsThrough_39 rfl ?_
      obtain ⟨r3, g_r3, h⟩ := ob_some h
      refine cl_Doors_37 (rest := []) C (hml.trans hl.1.symm) hP g_r3 ⟨Nat.le_of_ble_eq_true rfl, Nat.le_of_ble_eq_true rfl⟩ (Nat.le_of_ble_eq_true rfl) d_Doors_letsThrough_40 ⟨Nat.zero_le _, Nat.zero_le _⟩ ?_
      refine lv_if_eq (tgt := 50) hx hb d_Doors_letsThrough_43 (by decide) (fun c4 => ?_) (fun c4 => ?_)
      · rw [if_pos c4] at h
        refine lv_iconst (v := 0) hx hb d_Doors_letsThrough_50 (by decide) ?_
        exact W.zret hx hb hr rfl (fun t ht _ => ⟨_, rfl, Option.some.inj h, ht⟩) (fun _ hq => nomatch hq) d_Doors_letsThrough_51
      · rw [if_neg c4] at h
        refine lv_iconst (v := 1) hx hb d_Doors_letsThrough_46 (by decide) ?_
        refine lv_goto (tgt := 51) hx hb d_Doors_letsThrough_47 (by decide) ?_
        exact W.zret hx hb hr rfl (fun t ht _ => ⟨_, rfl, Option.some.inj h, ht⟩) (fun _ hq => nomatch hq) d_Doors_letsThrough_51
  · rw [if_neg c1] at h
    refine lv_iconst (v := 0) hx hb d_Doors_letsThrough_10 (by decide) ?_
    exact W.zret hx hb hr rfl (fun t ht _ => ⟨_, rfl, Option.some.inj h, ht⟩) (fun _ hq => nomatch hq) d_Doors_letsThrough_11
section RC
variable {p : Program} {l : Launch} {e : Env} {R : Room} {s : State} {m : MethodId} {args : Array Value} {below : List Frame} {meth : Method} {c : Code} {H : Heap} {locs : List Loc} {cells slots : Nat} {Q : State → Prop}
variable {cc : ByteArray} {pc : Nat} {ls : Array Slot} {rest : List Value} {G : va_G} {ad : Nat → Nat} {cI cZ : ClassId} {σ : Sg} {own : String}
theorem cl_PM_251 (C : CX "PlaceMoves" cc p s m args c G cI cZ) (hml : c.maxLocals = ls.size) (hP : va_P G clX (wX ad cI cZ σ) H) {x1 : Int32} {x2 : Int32} {x3 : Int32} {r : Int32} (hg : f_Doors_letsThrough σ x1 x2 x3 = some r) (hR : 1 + 1 ≤ R.frames ∧ 8 + (4 + 11) + 33 ≤ R.locals) (hrest : (rest.map fun v => v.category).sum ≤ 8) (hd : decode cc pc = .ok (.invokevirtual 251, 3)) (hcs : cells + 0 ≤ R.cells ∧ slots + 0 ≤ R.slots) (kk : W p l e R s m args below meth c H locs cells slots Q (F0 m (pc + 3) ls (.int r :: rest))) : W p l e R s m args below meth c H locs cells slots Q (F0 m pc ls (.int x3 :: .int x2 :: .int x1 :: .ref (ad 4) :: rest)) :=
  vp_callSi (W.runV (As := [.int x1, .int x2, .int x3]) (rest := rest) ⟨C.1, C.2.1, hml, C.2.2.1, C.2.2.2.1⟩ (c_Doors_letsThrough l G ad cI cZ σ x1 x2 x3 r hg) (cwV 3 C.2.2.2.1 (wg_V w_525 w_526 w_527 w_5 w_528) rfl rfl rfl (by decide +kernel) hR) ⟨PcX.blind, va_recv C.2.2.2.2.1 hP (ci := 4) (q0 := 4) rfl rfl, fun U hU hW => ⟨rfl, by rw [hU]; exact hP, C.2.2.2.2.warm hW⟩⟩ rfl rfl rfl rfl (lv_room hrest) hd hcs) (fun r' e => by subst e; exact kk)
end RC
end
section
abbrev wl_PM_fits : List Cond := .code ⟨"PlaceMoves", "fits", "(II)Z"⟩ prog_1_method_36_code 6 (some FieldType.boolean) :: WG
set_option maxHeartbeats 4000000 in
set_option maxRecDepth 100000 in
theorem c_PM_fits (l : Launch) (G : va_G) (ad : Nat → Nat) (cI cZ : ClassId) (σ : Sg) (a1 : Int32) (a2 : Int32) (out : Int32) (h : f_PM_fits σ a1 a2 = some out) : Met l ⟨"PlaceMoves", "fits", "(II)Z"⟩ wl_PM_fits ({ frames := 2, cells := 0, slots := 0, locals := 56 } : Room) (PcX G ad cI cZ σ [.ref (ad 0), .int a1, .int a2]) (vp_Si (fun r => r = out)) 0 0 (fun _ => False) := by
  refine Met.ofW (cc := prog_1_method_36_code) (maxL := 6) (ret := (some FieldType.boolean)) (by decide) rfl ?_
  intro p e s m args below meth c s₁ B hml hv
  obtain ⟨rfl, hP, hK⟩ := hv
  have hx := B.exec
  have hb := B.bytes
  have hr := B.returns
  have hts0 := atoms_spec (ws := wl_PM_fits) B.pre
  have hts : ∀ w ∈ WG, w.before _ s = true := fun w hw => hts0 w (List.mem_cons_of_mem _ hw)
  have hown : s.vm.findClass "PlaceMoves" = some m.cls := findClass_of_methodNamed B.named
  have hlocks := B.notSynchronized
  have C : CX "PlaceMoves" prog_1_method_36_code p s m _ c G cI cZ := ⟨hx, hb, hown, hts, hK⟩
  have hl := lv_entry ([.ref (ad 0), .int a1, .int a2]) (n := 6) (Nat.le_of_ble_eq_true rfl)
  rw [lg_entry_eq]
  generalize (lg_sl ([.ref (ad 0), .int a1, .int a2]) ++ List.replicate (6 - (lg_sl ([.ref (ad 0), .int a1, .int a2])).length) Slot.unset).toArray = ls at hl ⊢
  have hl : lv_has ls 6 [(0, .ref (ad 0)), (1, .int a1), (2, .int a2)] := hl
  unfold f_PM_fits at h
  refine lv_aload_n hx hb d_PM_fits_0 rfl (lv_at hl 0 rfl) ?_
  refine gf_PM_19 C hP d_PM_fits_1 ?_
  refine gf_PM_242 C hP d_PM_fits_4 ?_
  refine lv_iload_n hx hb d_PM_fits_7 rfl (lv_at hl 1 rfl) ?_
  obtain ⟨hin, h⟩ := gd_some h
  refine al_11 C hP hin d_PM_fits_8 ?_
  obtain ⟨y1, e_y1, h⟩ := lt1_some h
  refine W.eq (g2 := F0 m 9 ls (.int y1 :: [])) (by rw [e_y1]) ?_
  refine lv_istore_n (lv' := [(3, .int y1), (0, .ref (ad 0)), (1, .int a1), (2, .int a2)]) hx hb d_PM_fits_9 rfl hl (by decide) rfl (fun ls hl => ?_)
  refine lv_aload_n hx hb d_PM_fits_10 rfl (lv_at hl 1 rfl) ?_
  refine gf_PM_19 C hP d_PM_fits_11 ?_
  refine gf_PM_245 C hP d_PM_fits_14 ?_
  refine lv_iload_n hx hb d_PM_fits_17 rfl (lv_at hl 2 rfl) ?_
  obtain ⟨hin, h⟩ := gd_some h
  refine al_12 C hP hin d_PM_fits_18 ?_
  obtain ⟨y2, e_y2, h⟩ := lt1_some h
  refine W.eq (g2 := F0 m 19 ls (.int y2 :: [])) (by rw [e_y2]) ?_
  refine lv_istore (lv' := [(4, .int y2), (3, .int y1), (0, .ref (ad 0)), (1, .int a1), (2, .int a2)]) hx hb d_PM_fits_19 hl (by decide) rfl (fun ls hl => ?_)
  refine lv_aload_n hx hb d_PM_fits_21 rfl (lv_at hl 2 rfl) ?_
  refine gf_PM_19 C hP d_PM_fits_22 ?_
  refine gf_PM_248 C hP d_PM_fits_25 ?_
  refine lv_iload_n hx hb d_PM_fits_28 rfl (lv_at hl 3 rfl) ?_
  obtain ⟨hin, h⟩ := gd_some h
  refine al_13 C hP hin d_PM_fits_29 ?_
  obtain ⟨y3, e_y3, h⟩ := lt1_some h
  refine W.eq (g2 := F0 m 30 ls (.int y3 :: [])) (by rw [e_y3]) ?_
  refine lv_istore (lv' := [(5, .int y3), (4, .int y2), (3, .int y1), (0, .ref (ad 0)), (1, .int a1), (2, .int a2)]) hx hb d_PM_fits_30 hl (by decide) rfl (fun ls hl => ?_)
  refine lv_aload_n hx hb d_PM_fits_32 rfl (lv_at hl 3 rfl) ?_
  refine gf_PM_33 C hP d_PM_fits_33 ?_
  refine lv_iload_n hx hb d_PM_fits_36 rfl (lv_at hl 5 rfl) ?_
  refine lv_iload hx hb d_PM_fits_37 (lv_at hl 1 rfl) ?_
  refine lv_iload_n hx hb d_PM_fits_39 rfl (lv_at hl 2 rfl) ?_
  obtain ⟨r4, g_r4, h⟩ := ob_some h
  refine cl_PM_251 (rest := []) C (hml.trans hl.1.symm) hP g_r4 ⟨Nat.le_of_ble_eq_true rfl, Nat.le_of_ble_eq_true rfl⟩ (Nat.le_of_ble_eq_true rfl) d_PM_fits_40 ⟨Nat.zero_le _, Nat.zero_le _⟩ ?_
  refine lv_if_ne (tgt := 75) hx hb d_PM_fits_43 (by decide) (fun c5 => ?_) (fun c5 => ?_)
  · rw [if_neg c5] at h
    refine lv_iconst (v := 1) hx hb d_PM_fits_75 (by decide) ?_
    refine lv_goto (tgt := 80) hx hb d_PM_fits_76 (by decide) ?_
    exact W.zret hx hb hr rfl (fun t ht _ => ⟨_, rfl, Option.some.inj h, ht⟩) (fun _ hq => nomatch hq) d_PM_fits_80
  · rw [if_pos c5] at h
    refine lv_aload_n hx hb d_PM_fits_46 rfl (lv_at hl 3 rfl) ?_
    refine gf_PM_33 C hP d_PM_fits_47 ?_
    refine lv_iload_n hx hb d_PM_fits_50 rfl (lv_at hl 5 rfl) ?_
    refine lv_iload hx hb d_PM_fits_51 (lv_at hl 0 rfl) ?_
    refine lv_iload_n hx hb d_PM_fits_53 rfl (lv_at hl 2 rfl) ?_
    obtain ⟨r6, g_r6, h⟩ := ob_some h
    refine cl_PM_251 (rest := []) C (hml.trans hl.1.symm) hP g_r6 ⟨Nat.le_of_ble_eq_true rfl, Nat.le_of_ble_eq_true rfl⟩ (Nat.le_of_ble_eq_true rfl) d_PM_fits_54 ⟨Nat.zero_le _, Nat.zero_le _⟩ ?_
    refine lv_if_ne (tgt := 75) hx hb d_PM_fits_57 (by decide) (fun c7 => ?_) (fun c7 => ?_)
    · rw [if_neg c7] at h
      refine lv_iconst (v := 1) hx hb d_PM_fits_75 (by decide) ?_
      refine lv_goto (tgt := 80) hx hb d_PM_fits_76 (by decide) ?_
      exact W.zret hx hb hr rfl (fun t ht _ => ⟨_, rfl, Option.some.inj h, ht⟩) (fun _ hq => nomatch hq) d_PM_fits_80
    · rw [if_pos c7] at h
      refine lv_aload_n hx hb d_PM_fits_60 rfl (lv_at hl 3 rfl) ?_
      refine gf_PM_33 C hP d_PM_fits_61 ?_
      refine lv_iload_n hx hb d_PM_fits_64 rfl (lv_at hl 5 rfl) ?_
      refine lv_iload hx hb d_PM_fits_65 (lv_at hl 0 rfl) ?_
      refine lv_iload hx hb d_PM_fits_67 (lv_at hl 1 rfl) ?_
      obtain ⟨r8, g_r8, h⟩ := ob_some h
      refine cl_PM_251 (rest := []) C (hml.trans hl.1.symm) hP g_r8 ⟨Nat.le_of_ble_eq_true rfl, Nat.le_of_ble_eq_true rfl⟩ (Nat.le_of_ble_eq_true rfl) d_PM_fits_69 ⟨Nat.zero_le _, Nat.zero_le _⟩ ?_
      refine lv_if_eq (tgt := 79) hx hb d_PM_fits_72 (by decide) (fun c9 => ?_) (fun c9 => ?_)
      · rw [if_pos c9] at h
        refine lv_iconst (v := 0) hx hb d_PM_fits_79 (by decide) ?_
        exact W.zret hx hb hr rfl (fun t ht _ => ⟨_, rfl, Option.some.inj h, ht⟩) (fun _ hq => nomatch hq) d_PM_fits_80
      · rw [if_neg c9] at h
        refine lv_iconst (v := 1) hx hb d_PM_fits_75 (by decide) ?_
        refine lv_goto (tgt := 80) hx hb d_PM_fits_76 (by decide) ?_
        exact W.zret hx hb hr rfl (fun t ht _ => ⟨_, rfl, Option.some.inj h, ht⟩) (fun _ hq => nomatch hq) d_PM_fits_80
section RC
variable {p : Program} {l : Launch} {e : Env} {R : Room} {s : State} {m : MethodId} {args : Array Value} {below : List Frame} {meth : Method} {c : Code} {H : Heap} {locs : List Loc} {cells slots : Nat} {Q : State → Prop}
variable {cc : ByteArray} {pc : Nat} {ls : Array Slot} {rest : List Value} {G : va_G} {ad : Nat → Nat} {cI cZ : ClassId} {σ : Sg} {own : String}
theorem cl_PM_153 (C : CX "PlaceMoves" cc p s m args c G cI cZ) (hml : c.maxLocals = ls.size) (hP : va_P G clX (wX ad cI cZ σ) H) {x1 : Int32} {x2 : Int32} {r : Int32} (hg : f_PM_fits σ x1 x2 = some r) (hR : 2 + 1 ≤ R.frames ∧ 8 + (6 + 11) + 56 ≤ R.locals) (hrest : (rest.map fun v => v.category).sum ≤ 8) (hd : decode cc pc = .ok (.invokevirtual 153, 3)) (hcs : cells + 0 ≤ R.cells ∧ slots + 0 ≤ R.slots) (kk : W p l e R s m args below meth c H locs cells slots Q (F0 m (pc + 3) ls (.int r :: rest))) : W p l e R s m args below meth c H locs cells slots Q (F0 m pc ls (.int x2 :: .int x1 :: .ref (ad 0) :: rest)) :=
  vp_callSi (W.runV (As := [.int x1, .int x2]) (rest := rest) ⟨C.1, C.2.1, hml, C.2.2.1, C.2.2.2.1⟩ (c_PM_fits l G ad cI cZ σ x1 x2 r hg) (cwV 2 C.2.2.2.1 (wg_V w_521 w_523 ws_14 w_1 w_524) rfl rfl rfl (by decide +kernel) hR) ⟨PcX.blind, va_recv C.2.2.2.2.1 hP (ci := 0) (q0 := 0) rfl rfl, fun U hU hW => ⟨rfl, by rw [hU]; exact hP, C.2.2.2.2.warm hW⟩⟩ rfl rfl rfl rfl (lv_room hrest) hd hcs) (fun r' e => by subst e; exact kk)
end RC
abbrev wl_PM_fittingDoors : List Cond := .code ⟨"PlaceMoves", "fittingDoors", "(I)J"⟩ prog_1_method_37_code 5 (some FieldType.long) :: WG
set_option maxHeartbeats 4000000 in
set_option maxRecDepth 100000 in
theorem c_PM_fittingDoors (l : Launch) (G : va_G) (ad : Nat → Nat) (cI cZ : ClassId) (σ : Sg) (a1 : Int32) (out : Int64) (h : f_PM_fittingDoors σ a1 = some out) : Met l ⟨"PlaceMoves", "fittingDoors", "(I)J"⟩ wl_PM_fittingDoors ({ frames := 3, cells := 0, slots := 0, locals := 81 } : Room) (PcX G ad cI cZ σ [.ref (ad 0), .int a1]) (vp_Sl (fun r => r = out)) 0 0 (fun _ => False) := by
  refine Met.ofW (cc := prog_1_method_37_code) (maxL := 5) (ret := (some FieldType.long)) (by decide) rfl ?_
  intro p e s m args below meth c s₁ B hml hv
  obtain ⟨rfl, hP, hK⟩ := hv
  have hx := B.exec
  have hb := B.bytes
  have hr := B.returns
  have hts0 := atoms_spec (ws := wl_PM_fittingDoors) B.pre
  have hts : ∀ w ∈ WG, w.before _ s = true := fun w hw => hts0 w (List.mem_cons_of_mem _ hw)
  have hown : s.vm.findClass "PlaceMoves" = some m.cls := findClass_of_methodNamed B.named
  have hlocks := B.notSynchronized
  have C : CX "PlaceMoves" prog_1_method_37_code p s m _ c G cI cZ := ⟨hx, hb, hown, hts, hK⟩
  have hl := lv_entry ([.ref (ad 0), .int a1]) (n := 5) (Nat.le_of_ble_eq_true rfl)
  rw [lg_entry_eq]
  generalize (lg_sl ([.ref (ad 0), .int a1]) ++ List.replicate (5 - (lg_sl ([.ref (ad 0), .int a1])).length) Slot.unset).toArray = ls at hl ⊢
  have hl : lv_has ls 5 [(0, .ref (ad 0)), (1, .int a1)] := hl
  unfold f_PM_fittingDoors at h
  refine lv_lconst (v := 0) hx hb d_PM_fittingDoors_0 (by decide) ?_
  refine lv_lstore_n (lv' := [(2, .long 0), (0, .ref (ad 0)), (1, .int a1)]) hx hb d_PM_fittingDoors_1 rfl hl (by decide) rfl (fun ls hl => ?_)
  refine lv_iconst (v := 0) hx hb d_PM_fittingDoors_2 (by decide) ?_
  refine lv_istore (lv' := [(4, .int 0), (2, .long 0), (0, .ref (ad 0)), (1, .int a1)]) hx hb d_PM_fittingDoors_3 hl (by decide) rfl (fun ls hl => ?_)
  have k5 : ∀ (n : Nat) (x1 : Int32) (x2 : Int64) (x4 : Int32) (h : L_PM_fittingDoors_5 σ n x1 x2 x4 = some out) (ls : Array Slot) (hl : lv_has ls 5 [(0, .ref (ad 0)), (1, .int x1), (2, .long x2), (4, .int x4)]), W p l e (headSpec wl_PM_fittingDoors ({ frames := 3, cells := 0, slots := 0, locals := 81 } : Room)).room s m (([.ref (ad 0), .int a1] : List Value).toArray) below meth c s.heap [] 0 0 (MQ below (vp_Sl (fun r => r = out)) (([.ref (ad 0), .int a1] : List Value).toArray) s 0 0 (fun _ => False)) (F0 m 5 ls []) := by
    intro n
    induction n with
    | zero =>
      intro x1 x2 x4 h
      exact absurd h (by intro z; cases z)
    | succ n ih =>
      intro x1 x2 x4 h ls hl
      replace h : B_PM_fittingDoors_5 σ (L_PM_fittingDoors_5 σ n) x1 x2 x4 = some out := h
      unfold B_PM_fittingDoors_5 at h
      refine lv_iload hx hb d_PM_fittingDoors_5 (lv_at hl 3 rfl) ?_
      refine lv_aload_n hx hb d_PM_fittingDoors_7 rfl (lv_at hl 0 rfl) ?_
      refine gf_PM_33 C hP d_PM_fittingDoors_8 ?_
      refine gf_PM_151 C hP d_PM_fittingDoors_11 ?_
      refine lv_icmp_ge (tgt := 40) hx hb d_PM_fittingDoors_14 (by decide) (fun c1 => ?_) (fun c1 => ?_)
      · rw [if_pos c1] at h
        refine lv_lload_n hx hb d_PM_fittingDoors_40 rfl (lv_at hl 2 rfl) ?_
        exact W.lret hx hb hr (fun t ht _ => ⟨_, rfl, Option.some.inj h, ht⟩) (fun _ hq => nomatch hq) d_PM_fittingDoors_41
      · rw [if_neg c1] at h
        refine lv_aload_n hx hb d_PM_fittingDoors_17 rfl (lv_at hl 0 rfl) ?_
        refine lv_iload_n hx hb d_PM_fittingDoors_18 rfl (lv_at hl 1 rfl) ?_
        refine lv_iload hx hb d_PM_fittingDoors_19 (lv_at hl 3 rfl) ?_
        obtain ⟨r2, g_r2, h⟩ := ob_some h
        refine cl_PM_153 (rest := []) C (hml.trans hl.1.symm) hP g_r2 ⟨Nat.le_of_ble_eq_true rfl, Nat.le_of_ble_eq_true rfl⟩ (Nat.le_of_ble_eq_true rfl) d_PM_fittingDoors_21 ⟨Nat.zero_le _, Nat.zero_le _⟩ ?_
        refine lv_if_eq (tgt := 34) hx hb d_PM_fittingDoors_24 (by decide) (fun c3 => ?_) (fun c3 => ?_)
        · rw [if_pos c3] at h
          refine lv_iinc (v := x4 + 1) (lv' := [(4, .int (x4 + 1)), (0, .ref (ad 0)), (1, .int x1), (2, .long x2)]) hx hb d_PM_fittingDoors_34 hl (k := 3) rfl rfl (by decide) rfl (fun ls hl => ?_)
          refine lv_goto (tgt := 5) hx hb d_PM_fittingDoors_37 (by decide) ?_
          exact ih x1 x2 (x4 + 1) h _ (lv_sub hl [1, 2, 3, 0] rfl)
        · rw [if_neg c3] at h
          refine lv_lload_n hx hb d_PM_fittingDoors_27 rfl (lv_at hl 2 rfl) ?_
          refine lv_lconst (v := 1) hx hb d_PM_fittingDoors_28 (by decide) ?_
          refine lv_iload hx hb d_PM_fittingDoors_29 (lv_at hl 3 rfl) ?_
          refine lv_lshl (v := 1 <<< (Int32.toInt64 x4 &&& 63)) hx hb d_PM_fittingDoors_31 rfl ?_
          refine lv_lor hx hb d_PM_fittingDoors_32 ?_
          obtain ⟨y4, e_y4, h⟩ := lt1_some h
          refine W.eq (g2 := F0 m 33 ls (.long y4 :: [])) (by rw [e_y4]) ?_
          refine lv_lstore_n (lv' := [(2, .long y4), (0, .ref (ad 0)), (1, .int x1), (4, .int x4)]) hx hb d_PM_fittingDoors_33 rfl hl (by decide) rfl (fun ls hl => ?_)
          refine lv_iinc (v := x4 + 1) (lv' := [(4, .int (x4 + 1)), (2, .long y4), (0, .ref (ad 0)), (1, .int x1)]) hx hb d_PM_fittingDoors_34 hl (k := 3) rfl rfl (by decide) rfl (fun ls hl => ?_)
          refine lv_goto (tgt := 5) hx hb d_PM_fittingDoors_37 (by decide) ?_
          exact ih x1 y4 (x4 + 1) h _ (lv_sub hl [2, 3, 1, 0] rfl)
  exact k5 _ a1 0 0 h _ (lv_sub hl [2, 3, 1, 0] rfl)
section RC
variable {p : Program} {l : Launch} {e : Env} {R : Room} {s : State} {m : MethodId} {args : Array Value} {below : List Frame} {meth : Method} {c : Code} {H : Heap} {locs : List Loc} {cells slots : Nat} {Q : State → Prop}
variable {cc : ByteArray} {pc : Nat} {ls : Array Slot} {rest : List Value} {G : va_G} {ad : Nat → Nat} {cI cZ : ClassId} {σ : Sg} {own : String}
theorem cl_PM_156 (C : CX "PlaceMoves" cc p s m args c G cI cZ) (hml : c.maxLocals = ls.size) (hP : va_P G clX (wX ad cI cZ σ) H) {x1 : Int32} {r : Int64} (hg : f_PM_fittingDoors σ x1 = some r) (hR : 3 + 1 ≤ R.frames ∧ 8 + (5 + 11) + 81 ≤ R.locals) (hrest : (rest.map fun v => v.category).sum ≤ 8) (hd : decode cc pc = .ok (.invokevirtual 156, 3)) (hcs : cells + 0 ≤ R.cells ∧ slots + 0 ≤ R.slots) (kk : W p l e R s m args below meth c H locs cells slots Q (F0 m (pc + 3) ls (.long r :: rest))) : W p l e R s m args below meth c H locs cells slots Q (F0 m pc ls (.int x1 :: .ref (ad 0) :: rest)) :=
  vp_callSl (W.runV (As := [.int x1]) (rest := rest) ⟨C.1, C.2.1, hml, C.2.2.1, C.2.2.2.1⟩ (c_PM_fittingDoors l G ad cI cZ σ x1 r hg) (cwV 1 C.2.2.2.1 (wg_V w_540 w_542 ws_15 w_1 w_543) rfl rfl rfl (by decide +kernel) hR) ⟨PcX.blind, va_recv C.2.2.2.2.1 hP (ci := 0) (q0 := 0) rfl rfl, fun U hU hW => ⟨rfl, by rw [hU]; exact hP, C.2.2.2.2.warm hW⟩⟩ rfl rfl rfl rfl (lv_room hrest) hd hcs) (fun r' e => by subst e; exact kk)
end RC
abbrev wl_Doors_spread : List Cond := .code ⟨"PlaceMoves$Doors", "spread", "(IJ)I"⟩ prog_2_method_5_code 7 (some FieldType.int) :: WG
set_option maxHeartbeats 4000000 in
set_option maxRecDepth 100000 in
theorem c_Doors_spread (l : Launch) (G : va_G) (ad : Nat → Nat) (cI cZ : ClassId) (σ : Sg) (a1 : Int32) (a2 : Int64) (out : Int32) (h : f_Doors_spread σ a1 a2 = some out) : Met l ⟨"PlaceMoves$Doors", "spread", "(IJ)I"⟩ wl_Doors_spread ({ frames := 0, cells := 0, slots := 0, locals := 0 } : Room) (PcX G ad cI cZ σ [.ref (ad 4), .int a1, .long a2]) (vp_Si (fun r => r = out)) 0 0 (fun _ => False) := by
  refine Met.ofW (cc := prog_2_method_5_code) (maxL := 7) (ret := (some FieldType.int)) (by decide) rfl ?_
  intro p e s m args below meth c s₁ B hml hv
  obtain ⟨rfl, hP, hK⟩ := hv
  have hx := B.exec
  have hb := B.bytes
  have hr := B.returns
  have hts0 := atoms_spec (ws := wl_Doors_spread) B.pre
  have hts : ∀ w ∈ WG, w.before _ s = true := fun w hw => hts0 w (List.mem_cons_of_mem _ hw)
  have hown : s.vm.findClass "PlaceMoves$Doors" = some m.cls := findClass_of_methodNamed B.named
  have hlocks := B.notSynchronized
  have C : CX "PlaceMoves$Doors" prog_2_method_5_code p s m _ c G cI cZ := ⟨hx, hb, hown, hts, hK⟩
  have hl := lv_entry ([.ref (ad 4), .int a1, .long a2]) (n := 7) (Nat.le_of_ble_eq_true rfl)
  rw [lg_entry_eq]
  generalize (lg_sl ([.ref (ad 4), .int a1, .long a2]) ++ List.replicate (7 - (lg_sl ([.ref (ad 4), .int a1, .long a2])).length) Slot.unset).toArray = ls at hl ⊢
  have hl : lv_has ls 7 [(0, .ref (ad 4)), (1, .int a1), (2, .long a2)] := hl
  unfold f_Doors_spread at h
  refine lv_iload_n hx hb d_Doors_spread_0 rfl (lv_at hl 1 rfl) ?_
  refine lv_istore (lv' := [(4, .int a1), (0, .ref (ad 4)), (1, .int a1), (2, .long a2)]) hx hb d_Doors_spread_1 hl (by decide) rfl (fun ls hl => ?_)
  refine lv_iconst (v := 0) hx hb d_Doors_spread_3 (by decide) ?_
  refine lv_istore (lv' := [(5, .int 0), (4, .int a1), (0, .ref (ad 4)), (1, .int a1), (2, .long a2)]) hx hb d_Doors_spread_4 hl (by decide) rfl (fun ls hl => ?_)
  have k6 : ∀ (n : Nat) (x1 : Int32) (x2 : Int64) (x4 : Int32) (x5 : Int32) (h : L_Doors_spread_6 σ n x1 x2 x4 x5 = some out) (ls : Array Slot) (hl : lv_has ls 7 [(0, .ref (ad 4)), (1, .int x1), (2, .long x2), (4, .int x4), (5, .int x5)]), W p l e (headSpec wl_Doors_spread ({ frames := 0, cells := 0, slots := 0, locals := 0 } : Room)).room s m (([.ref (ad 4), .int a1, .long a2] : List Value).toArray) below meth c s.heap [] 0 0 (MQ below (vp_Si (fun r => r = out)) (([.ref (ad 4), .int a1, .long a2] : List Value).toArray) s 0 0 (fun _ => False)) (F0 m 6 ls []) := by
    intro n
    induction n with
    | zero =>
      intro x1 x2 x4 x5 h
      exact absurd h (by intro z; cases z)
    | succ n ih =>
      intro x1 x2 x4 x5 h ls hl
      replace h : B_Doors_spread_6 σ (L_Doors_spread_6 σ n) x1 x2 x4 x5 = some out := h
      unfold B_Doors_spread_6 at h
      refine lv_iload hx hb d_Doors_spread_6 (lv_at hl 4 rfl) ?_
      refine lv_aload_n hx hb d_Doors_spread_8 rfl (lv_at hl 0 rfl) ?_
      refine gf_Doors_24 C hP d_Doors_spread_9 ?_
      refine lv_icmp_ge (tgt := 67) hx hb d_Doors_spread_12 (by decide) (fun c1 => ?_) (fun c1 => ?_)
      · rw [if_pos c1] at h
        refine lv_iload hx hb d_Doors_spread_67 (lv_at hl 3 rfl) ?_
        exact W.iret hx hb hr (fun t ht _ => ⟨_, rfl, Option.some.inj h, ht⟩) (fun _ hq => nomatch hq) d_Doors_spread_69
      · rw [if_neg c1] at h
        refine lv_iconst (v := 1) hx hb d_Doors_spread_15 (by decide) ?_
        refine lv_aload_n hx hb d_Doors_spread_16 rfl (lv_at hl 0 rfl) ?_
        refine gf_Doors_9 C hP d_Doors_spread_17 ?_
        refine lv_iload hx hb d_Doors_spread_20 (lv_at hl 4 rfl) ?_
        obtain ⟨hin, h⟩ := gd_some h
        refine al_21 C hP hin d_Doors_spread_22 ?_
        refine lv_ishl hx hb d_Doors_spread_23 ?_
        refine lv_iconst (v := 1) hx hb d_Doors_spread_24 (by decide) ?_
        refine lv_aload_n hx hb d_Doors_spread_25 rfl (lv_at hl 0 rfl) ?_
        refine gf_Doors_15 C hP d_Doors_spread_26 ?_
        refine lv_iload hx hb d_Doors_spread_29 (lv_at hl 4 rfl) ?_
        obtain ⟨hin, h⟩ := gd_some h
        refine al_22 C hP hin d_Doors_spread_31 ?_
        refine lv_ishl hx hb d_Doors_spread_32 ?_
        refine lv_ior hx hb d_Doors_spread_33 ?_
        obtain ⟨y2, e_y2, h⟩ := lt1_some h
        refine W.eq (g2 := F0 m 34 ls (.int y2 :: [])) (by rw [e_y2]) ?_
        refine lv_istore (lv' := [(6, .int y2), (0, .ref (ad 4)), (1, .int x1), (2, .long x2), (4, .int x4), (5, .int x5)]) hx hb d_Doors_spread_34 hl (by decide) rfl (fun ls hl => ?_)
        refine lv_lload_n hx hb d_Doors_spread_36 rfl (lv_at hl 3 rfl) ?_
        refine lv_iload hx hb d_Doors_spread_37 (lv_at hl 5 rfl) ?_
        refine lv_lushr (v := lush x2 x5) hx hb d_Doors_spread_39 rfl ?_
        refine lv_lconst (v := 1) hx hb d_Doors_spread_40 (by decide) ?_
        refine lv_land hx hb d_Doors_spread_41 ?_
        refine lv_lconst (v := 1) hx hb d_Doors_spread_42 (by decide) ?_
        refine W.lcmp hx hb d_Doors_spread_43 ?_
        refine lv_if_ne (tgt := 61) hx hb d_Doors_spread_44 (by decide) (fun c3 => ?_) (fun c3 => ?_)
        · rw [if_neg c3] at h
          refine lv_iinc (v := x5 + 1) (lv' := [(5, .int (x5 + 1)), (6, .int y2), (0, .ref (ad 4)), (1, .int x1), (2, .long x2), (4, .int x4)]) hx hb d_Doors_spread_61 hl (k := 5) rfl rfl (by decide) rfl (fun ls hl => ?_)
          refine lv_goto (tgt := 6) hx hb d_Doors_spread_64 (by decide) ?_
          exact ih x1 x2 x4 (x5 + 1) h _ (lv_sub hl [2, 3, 4, 5, 0] rfl)
        · rw [if_pos c3] at h
          refine lv_iload_n hx hb d_Doors_spread_47 rfl (lv_at hl 2 rfl) ?_
          refine lv_iload hx hb d_Doors_spread_48 (lv_at hl 0 rfl) ?_
          refine lv_iand hx hb d_Doors_spread_50 ?_
          refine lv_if_eq (tgt := 61) hx hb d_Doors_spread_51 (by decide) (fun c4 => ?_) (fun c4 => ?_)
          · rw [if_pos c4] at h
            refine lv_iinc (v := x5 + 1) (lv' := [(5, .int (x5 + 1)), (6, .int y2), (0, .ref (ad 4)), (1, .int x1), (2, .long x2), (4, .int x4)]) hx hb d_Doors_spread_61 hl (k := 5) rfl rfl (by decide) rfl (fun ls hl => ?_)
            refine lv_goto (tgt := 6) hx hb d_Doors_spread_64 (by decide) ?_
            exact ih x1 x2 x4 (x5 + 1) h _ (lv_sub hl [2, 3, 4, 5, 0] rfl)
          · rw [if_neg c4] at h
            refine lv_iload hx hb d_Doors_spread_54 (lv_at hl 4 rfl) ?_
            refine lv_iload hx hb d_Doors_spread_56 (lv_at hl 0 rfl) ?_
            refine lv_ior hx hb d_Doors_spread_58 ?_
            refine lv_istore (lv' := [(4, .int (x4 ||| y2)), (6, .int y2), (0, .ref (ad 4)), (1, .int x1), (2, .long x2), (5, .int x5)]) hx hb d_Doors_spread_59 hl (by decide) rfl (fun ls hl => ?_)
            refine lv_iinc (v := x5 + 1) (lv' := [(5, .int (x5 + 1)), (4, .int (x4 ||| y2)), (6, .int y2), (0, .ref (ad 4)), (1, .int x1), (2, .long x2)]) hx hb d_Doors_spread_61 hl (k := 5) rfl rfl (by decide) rfl (fun ls hl => ?_)
            refine lv_goto (tgt := 6) hx hb d_Doors_spread_64 (by decide) ?_
            exact ih x1 x2 (x4 ||| y2) (x5 + 1) h _ (lv_sub hl [3, 4, 5, 1, 0] rfl)
  exact k6 _ a1 a2 a1 0 h _ (lv_sub hl [2, 3, 4, 1, 0] rfl)
section RC
variable {p : Program} {l : Launch} {e : Env} {R : Room} {s : State} {m : MethodId} {args : Array Value} {below : List Frame} {meth : Method} {c : Code} {H : Heap} {locs : List Loc} {cells slots : Nat} {Q : State → Prop}
variable {cc : ByteArray} {pc : Nat} {ls : Array Slot} {rest : List Value} {G : va_G} {ad : Nat → Nat} {cI cZ : ClassId} {σ : Sg} {own : String}
theorem cl_PM_254 (C : CX "PlaceMoves" cc p s m args c G cI cZ) (hml : c.maxLocals = ls.size) (hP : va_P G clX (wX ad cI cZ σ) H) {x1 : Int32} {x2 : Int64} {r : Int32} (hg : f_Doors_spread σ x1 x2 = some r) (hR : 0 + 1 ≤ R.frames ∧ 8 + (7 + 11) + 0 ≤ R.locals) (hrest : (rest.map fun v => v.category).sum ≤ 8) (hd : decode cc pc = .ok (.invokevirtual 254, 3)) (hcs : cells + 0 ≤ R.cells ∧ slots + 0 ≤ R.slots) (kk : W p l e R s m args below meth c H locs cells slots Q (F0 m (pc + 3) ls (.int r :: rest))) : W p l e R s m args below meth c H locs cells slots Q (F0 m pc ls (.long x2 :: .int x1 :: .ref (ad 4) :: rest)) :=
  vp_callSi (W.runV (As := [.int x1, .long x2]) (rest := rest) ⟨C.1, C.2.1, hml, C.2.2.1, C.2.2.2.1⟩ (c_Doors_spread l G ad cI cZ σ x1 x2 r hg) (cwV 2 C.2.2.2.1 (wg_V w_548 w_549 w_550 w_5 w_551) rfl rfl rfl (by decide +kernel) hR) ⟨PcX.blind, va_recv C.2.2.2.2.1 hP (ci := 4) (q0 := 4) rfl rfl, fun U hU hW => ⟨rfl, by rw [hU]; exact hP, C.2.2.2.2.warm hW⟩⟩ rfl rfl rfl rfl (lv_room hrest) hd hcs) (fun r' e => by subst e; exact kk)
end RC
abbrev wl_PM_doorsBetween : List Cond := .code ⟨"PlaceMoves", "doorsBetween", "(IIJ)I"⟩ prog_1_method_38_code 8 (some FieldType.int) :: WG
set_option maxHeartbeats 4000000 in
set_option maxRecDepth 100000 in
theorem c_PM_doorsBetween (l : Launch) (G : va_G) (ad : Nat → Nat) (cI cZ : ClassId) (σ : Sg) (a1 : Int32) (a2 : Int32) (a3 : Int64) (out : Int32) (h : f_PM_doorsBetween σ a1 a2 a3 = some out) : Met l ⟨"PlaceMoves", "doorsBetween", "(IIJ)I"⟩ wl_PM_doorsBetween ({ frames := 1, cells := 0, slots := 0, locals := 26 } : Room) (PcX G ad cI cZ σ [.ref (ad 0), .int a1, .int a2, .long a3]) (vp_Si (fun r => r = out)) 0 0 (fun _ => False) := by
  refine Met.ofW (cc := prog_1_method_38_code) (maxL := 8) (ret := (some FieldType.int)) (by decide) rfl ?_
  intro p e s m args below meth c s₁ B hml hv
  obtain ⟨rfl, hP, hK⟩ := hv
  have hx := B.exec
  have hb := B.bytes
  have hr := B.returns
  have hts0 := atoms_spec (ws := wl_PM_doorsBetween) B.pre
  have hts : ∀ w ∈ WG, w.before _ s = true := fun w hw => hts0 w (List.mem_cons_of_mem _ hw)
  have hown : s.vm.findClass "PlaceMoves" = some m.cls := findClass_of_methodNamed B.named
  have hlocks := B.notSynchronized
  have C : CX "PlaceMoves" prog_1_method_38_code p s m _ c G cI cZ := ⟨hx, hb, hown, hts, hK⟩
  have hl := lv_entry ([.ref (ad 0), .int a1, .int a2, .long a3]) (n := 8) (Nat.le_of_ble_eq_true rfl)
  rw [lg_entry_eq]
  generalize (lg_sl ([.ref (ad 0), .int a1, .int a2, .long a3]) ++ List.replicate (8 - (lg_sl ([.ref (ad 0), .int a1, .int a2, .long a3])).length) Slot.unset).toArray = ls at hl ⊢
  have hl : lv_has ls 8 [(0, .ref (ad 0)), (1, .int a1), (2, .int a2), (3, .long a3)] := hl
  unfold f_PM_doorsBetween at h
  refine lv_iconst (v := 1) hx hb d_PM_doorsBetween_0 (by decide) ?_
  refine lv_iload_n hx hb d_PM_doorsBetween_1 rfl (lv_at hl 1 rfl) ?_
  refine lv_ishl hx hb d_PM_doorsBetween_2 ?_
  obtain ⟨y1, e_y1, h⟩ := lt1_some h
  refine W.eq (g2 := F0 m 3 ls (.int y1 :: [])) (by rw [e_y1]) ?_
  refine lv_istore (lv' := [(5, .int y1), (0, .ref (ad 0)), (1, .int a1), (2, .int a2), (3, .long a3)]) hx hb d_PM_doorsBetween_3 hl (by decide) rfl (fun ls hl => ?_)
  refine lv_iconst (v := 0) hx hb d_PM_doorsBetween_5 (by decide) ?_
  refine lv_istore (lv' := [(6, .int 0), (5, .int y1), (0, .ref (ad 0)), (1, .int a1), (2, .int a2), (3, .long a3)]) hx hb d_PM_doorsBetween_6 hl (by decide) rfl (fun ls hl => ?_)
  have k8 : ∀ (n : Nat) (x2 : Int32) (x3 : Int64) (x5 : Int32) (x6 : Int32) (h : L_PM_doorsBetween_8 σ n x2 x3 x5 x6 = some out) (ls : Array Slot) (hl : lv_has ls 8 [(0, .ref (ad 0)), (2, .int x2), (3, .long x3), (5, .int x5), (6, .int x6)]), W p l e (headSpec wl_PM_doorsBetween ({ frames := 1, cells := 0, slots := 0, locals := 26 } : Room)).room s m (([.ref (ad 0), .int a1, .int a2, .long a3] : List Value).toArray) below meth c s.heap [] 0 0 (MQ below (vp_Si (fun r => r = out)) (([.ref (ad 0), .int a1, .int a2, .long a3] : List Value).toArray) s 0 0 (fun _ => False)) (F0 m 8 ls []) := by
    intro n
    induction n with
    | zero =>
      intro x2 x3 x5 x6 h
      exact absurd h (by intro z; cases z)
    | succ n ih =>
      intro x2 x3 x5 x6 h ls hl
      replace h : B_PM_doorsBetween_8 σ (L_PM_doorsBetween_8 σ n) x2 x3 x5 x6 = some out := h
      unfold B_PM_doorsBetween_8 at h
      refine lv_iload hx hb d_PM_doorsBetween_8 (lv_at hl 4 rfl) ?_
      refine lv_bipush (v := 24) hx hb d_PM_doorsBetween_10 (by decide) ?_
      refine lv_icmp_ge (tgt := 59) hx hb d_PM_doorsBetween_12 (by decide) (fun c2 => ?_) (fun c2 => ?_)
      · rw [if_pos c2] at h
        refine lv_iconst (v := (-1)) hx hb d_PM_doorsBetween_59 (by decide) ?_
        exact W.iret hx hb hr (fun t ht _ => ⟨_, rfl, Option.some.inj h, ht⟩) (fun _ hq => nomatch hq) d_PM_doorsBetween_60
      · rw [if_neg c2] at h
        refine lv_iload hx hb d_PM_doorsBetween_15 (lv_at hl 3 rfl) ?_
        refine lv_iload_n hx hb d_PM_doorsBetween_17 rfl (lv_at hl 1 rfl) ?_
        refine lv_iushr (v := ush x5 x2) hx hb d_PM_doorsBetween_18 rfl ?_
        refine lv_iconst (v := 1) hx hb d_PM_doorsBetween_19 (by decide) ?_
        refine lv_iand hx hb d_PM_doorsBetween_20 ?_
        refine lv_iconst (v := 1) hx hb d_PM_doorsBetween_21 (by decide) ?_
        refine lv_icmp_ne (tgt := 28) hx hb d_PM_doorsBetween_22 (by decide) (fun c3 => ?_) (fun c3 => ?_)
        · rw [if_neg c3] at h
          refine lv_aload_n hx hb d_PM_doorsBetween_28 rfl (lv_at hl 0 rfl) ?_
          refine gf_PM_33 C hP d_PM_doorsBetween_29 ?_
          refine lv_iload hx hb d_PM_doorsBetween_32 (lv_at hl 3 rfl) ?_
          refine lv_lload_n hx hb d_PM_doorsBetween_34 rfl (lv_at hl 2 rfl) ?_
          obtain ⟨r4, g_r4, h⟩ := ob_some h
          refine cl_PM_254 (rest := []) C (hml.trans hl.1.symm) hP g_r4 ⟨Nat.le_of_ble_eq_true rfl, Nat.le_of_ble_eq_true rfl⟩ (Nat.le_of_ble_eq_true rfl) d_PM_doorsBetween_35 ⟨Nat.zero_le _, Nat.zero_le _⟩ ?_
          refine lv_istore (lv' := [(7, .int r4), (0, .ref (ad 0)), (2, .int x2), (3, .long x3), (5, .int x5), (6, .int x6)]) hx hb d_PM_doorsBetween_38 hl (by decide) rfl (fun ls hl => ?_)
          refine lv_iload hx hb d_PM_doorsBetween_40 (lv_at hl 0 rfl) ?_
          refine lv_iload hx hb d_PM_doorsBetween_42 (lv_at hl 4 rfl) ?_
          refine lv_icmp_ne (tgt := 49) hx hb d_PM_doorsBetween_44 (by decide) (fun c5 => ?_) (fun c5 => ?_)
          · rw [if_neg c5] at h
            refine lv_iload hx hb d_PM_doorsBetween_49 (lv_at hl 0 rfl) ?_
            refine lv_istore (lv' := [(5, .int r4), (7, .int r4), (0, .ref (ad 0)), (2, .int x2), (3, .long x3), (6, .int x6)]) hx hb d_PM_doorsBetween_51 hl (by decide) rfl (fun ls hl => ?_)
            refine lv_iinc (v := x6 + 1) (lv' := [(6, .int (x6 + 1)), (5, .int r4), (7, .int r4), (0, .ref (ad 0)), (2, .int x2), (3, .long x3)]) hx hb d_PM_doorsBetween_53 hl (k := 5) rfl rfl (by decide) rfl (fun ls hl => ?_)
            refine lv_goto (tgt := 8) hx hb d_PM_doorsBetween_56 (by decide) ?_
            exact ih x2 x3 r4 (x6 + 1) h _ (lv_sub hl [3, 4, 5, 1, 0] rfl)
          · rw [if_pos c5] at h
            refine lv_iconst (v := (-1)) hx hb d_PM_doorsBetween_47 (by decide) ?_
            exact W.iret hx hb hr (fun t ht _ => ⟨_, rfl, Option.some.inj h, ht⟩) (fun _ hq => nomatch hq) d_PM_doorsBetween_48
        · rw [if_pos c3] at h
          refine lv_iload hx hb d_PM_doorsBetween_25 (lv_at hl 4 rfl) ?_
          exact W.iret hx hb hr (fun t ht _ => ⟨_, rfl, Option.some.inj h, ht⟩) (fun _ hq => nomatch hq) d_PM_doorsBetween_27
  exact k8 _ a2 a3 y1 0 h _ (lv_sub hl [2, 4, 5, 1, 0] rfl)
section RC
variable {p : Program} {l : Launch} {e : Env} {R : Room} {s : State} {m : MethodId} {args : Array Value} {below : List Frame} {meth : Method} {c : Code} {H : Heap} {locs : List Loc} {cells slots : Nat} {Q : State → Prop}
variable {cc : ByteArray} {pc : Nat} {ls : Array Slot} {rest : List Value} {G : va_G} {ad : Nat → Nat} {cI cZ : ClassId} {σ : Sg} {own : String}
theorem cl_PM_160 (C : CX "PlaceMoves" cc p s m args c G cI cZ) (hml : c.maxLocals = ls.size) (hP : va_P G clX (wX ad cI cZ σ) H) {x1 : Int32} {x2 : Int32} {x3 : Int64} {r : Int32} (hg : f_PM_doorsBetween σ x1 x2 x3 = some r) (hR : 1 + 1 ≤ R.frames ∧ 8 + (8 + 11) + 26 ≤ R.locals) (hrest : (rest.map fun v => v.category).sum ≤ 8) (hd : decode cc pc = .ok (.invokevirtual 160, 3)) (hcs : cells + 0 ≤ R.cells ∧ slots + 0 ≤ R.slots) (kk : W p l e R s m args below meth c H locs cells slots Q (F0 m (pc + 3) ls (.int r :: rest))) : W p l e R s m args below meth c H locs cells slots Q (F0 m pc ls (.long x3 :: .int x2 :: .int x1 :: .ref (ad 0) :: rest)) :=
  vp_callSi (W.runV (As := [.int x1, .int x2, .long x3]) (rest := rest) ⟨C.1, C.2.1, hml, C.2.2.1, C.2.2.2.1⟩ (c_PM_doorsBetween l G ad cI cZ σ x1 x2 x3 r hg) (cwV 3 C.2.2.2.1 (wg_V w_544 w_546 ws_16 w_1 w_547) rfl rfl rfl (by decide +kernel) hR) ⟨PcX.blind, va_recv C.2.2.2.2.1 hP (ci := 0) (q0 := 0) rfl rfl, fun U hU hW => ⟨rfl, by rw [hU]; exact hP, C.2.2.2.2.warm hW⟩⟩ rfl rfl rfl rfl (lv_room hrest) hd hcs) (fun r' e => by subst e; exact kk)
end RC
end
section
theorem wX_adr (ad : Nat → Nat) (cI cZ : ClassId) (σ : Sg) : (wX ad cI cZ σ).map Prod.fst = (List.range 32).map ad := rfl
theorem wX_at {ad : Nat → Nat} {cI cZ : ClassId} {σ : Sg} {i : Nat} {q : Nat × va_E} (h : (wX ad cI cZ σ)[i]? = some q) : i < 32 ∧ q.1 = ad i := by
  have h1 : ((wX ad cI cZ σ).map Prod.fst)[i]? = some q.1 := by rw [List.getElem?_map, h]; rfl
  rw [wX_adr, List.getElem?_map] at h1
  by_cases hi : i < 32
  · rw [List.getElem?_range hi] at h1
    exact ⟨hi, (Option.some.inj h1).symm⟩
  · rw [List.getElem?_eq_none (by simpa using hi)] at h1
    cases h1
theorem DX.d {ad : Nat → Nat} (hD : DX ad) {cI cZ : ClassId} {σ : Sg} : va_D (AX ad) (wX ad cI cZ σ) :=
  ⟨fun i j p q hp hq e => by
    obtain ⟨h1, h2⟩ := wX_at hp
    obtain ⟨h3, h4⟩ := wX_at hq
    exact hD i j h1 h3 (by rw [← h2, ← h4, e]), fun k q h => ⟨k, wX_at h⟩⟩
/-- what a writing method leaves -/
def QMv (G : va_G) (ad : Nat → Nat) (cI cZ : ClassId) (out : Sg) : Array Value → State → Outcome → State → Prop := va_Qv (fun _ : Unit => True) (fun _ t => va_P G clX (wX ad cI cZ out) t.heap) (AX ad)
def QMi (G : va_G) (ad : Nat → Nat) (cI cZ : ClassId) (out : Int32 × Sg) : Array Value → State → Outcome → State → Prop := va_Qi (fun r (_ : Unit) => r = out.1) (fun _ t => va_P G clX (wX ad cI cZ out.2) t.heap) (AX ad)
theorem qm_v {G : va_G} {ad : Nat → Nat} {cI cZ : ClassId} {out σ : Sg} {a : Array Value} {s t : State} {H : Heap} {locs : List Loc} (h : some σ = some out) (ht : t.heap = H) (hW : WS G ad cI cZ s σ H locs) : QMv G ad cI cZ out a s (.returned none) t := by
  cases h
  exact ⟨⟨(), rfl, trivial, by show va_P _ _ _ t.heap; rw [ht]; exact hW.1⟩, hW.2.F ht⟩
theorem qm_i {G : va_G} {ad : Nat → Nat} {cI cZ : ClassId} {out : Int32 × Sg} {σ : Sg} {r : Int32} {a : Array Value} {s t : State} {H : Heap} {locs : List Loc} (h : some (r, σ) = some out) (ht : t.heap = H) (hW : WS G ad cI cZ s σ H locs) : QMi G ad cI cZ out a s (.returned (some (.int r))) t := by
  cases h
  exact ⟨⟨r, (), rfl, rfl, by show va_P _ _ _ t.heap; rw [ht]; exact hW.1⟩, hW.2.F ht⟩
section RXM
variable {p : Program} {l : Launch} {e : Env} {R : Room} {s : State} {m : MethodId} {args : Array Value} {below : List Frame} {meth : Method} {c : Code} {H : Heap} {locs : List Loc} {cells slots : Nat} {Q : State → Prop}
variable {cc : ByteArray} {pc : Nat} {ls : Array Slot} {rest : List Value} {G : va_G} {ad : Nat → Nat} {cI cZ : ClassId} {σ : Sg} {own : String}
theorem as_7 (C : CX own cc p s m args c G cI cZ) (hD : DX ad) (hW : WS G ad cI cZ s σ H locs) {i x : Int32} (hin : inB i 10 = true) (hd : decode cc pc = .ok (.bastore, 1)) (kk : ∀ (H1 : Heap) (locs1 : List Loc), WS G ad cI cZ s (st σ 7 (Int32.toNatClampNeg i) (vp_nar .boolean x)) H1 locs1 → W p l e R s m args below meth c H1 locs1 cells slots Q (F0 m (pc + 1) ls rest)) : W p l e R s m args below meth c H locs cells slots Q (F0 m pc ls (.int x :: .int i :: .ref (ad 7) :: rest)) :=
  va_zast C.1 C.2.1 C.2.2.2.2.1 hW.1 hD.d hW.2 7 1 rfl rfl (inB_in hin) hd (fun H1 locs1 h1 _ h3 => kk H1 locs1 ⟨h1, h3⟩)
theorem as_8 (C : CX own cc p s m args c G cI cZ) (hD : DX ad) (hW : WS G ad cI cZ s σ H locs) {i x : Int32} (hin : inB i 20 = true) (hd : decode cc pc = .ok (.iastore, 1)) (kk : ∀ (H1 : Heap) (locs1 : List Loc), WS G ad cI cZ s (st σ 8 (Int32.toNatClampNeg i) x) H1 locs1 → W p l e R s m args below meth c H1 locs1 cells slots Q (F0 m (pc + 1) ls rest)) : W p l e R s m args below meth c H locs cells slots Q (F0 m pc ls (.int x :: .int i :: .ref (ad 8) :: rest)) :=
  va_iast C.1 C.2.1 C.2.2.2.2.1 hW.1 hD.d hW.2 8 0 rfl rfl (inB_in hin) hd (fun H1 locs1 h1 _ h3 => kk H1 locs1 ⟨h1, h3⟩)
theorem as_9 (C : CX own cc p s m args c G cI cZ) (hD : DX ad) (hW : WS G ad cI cZ s σ H locs) {i x : Int32} (hin : inB i 24 = true) (hd : decode cc pc = .ok (.iastore, 1)) (kk : ∀ (H1 : Heap) (locs1 : List Loc), WS G ad cI cZ s (st σ 9 (Int32.toNatClampNeg i) x) H1 locs1 → W p l e R s m args below meth c H1 locs1 cells slots Q (F0 m (pc + 1) ls rest)) : W p l e R s m args below meth c H locs cells slots Q (F0 m pc ls (.int x :: .int i :: .ref (ad 9) :: rest)) :=
  va_iast C.1 C.2.1 C.2.2.2.2.1 hW.1 hD.d hW.2 9 0 rfl rfl (inB_in hin) hd (fun H1 locs1 h1 _ h3 => kk H1 locs1 ⟨h1, h3⟩)
theorem as_10 (C : CX own cc p s m args c G cI cZ) (hD : DX ad) (hW : WS G ad cI cZ s σ H locs) {i x : Int32} (hin : inB i 24 = true) (hd : decode cc pc = .ok (.iastore, 1)) (kk : ∀ (H1 : Heap) (locs1 : List Loc), WS G ad cI cZ s (st σ 10 (Int32.toNatClampNeg i) x) H1 locs1 → W p l e R s m args below meth c H1 locs1 cells slots Q (F0 m (pc + 1) ls rest)) : W p l e R s m args below meth c H locs cells slots Q (F0 m pc ls (.int x :: .int i :: .ref (ad 10) :: rest)) :=
  va_iast C.1 C.2.1 C.2.2.2.2.1 hW.1 hD.d hW.2 10 0 rfl rfl (inB_in hin) hd (fun H1 locs1 h1 _ h3 => kk H1 locs1 ⟨h1, h3⟩)
theorem as_11 (C : CX own cc p s m args c G cI cZ) (hD : DX ad) (hW : WS G ad cI cZ s σ H locs) {i x : Int32} (hin : inB i 20 = true) (hd : decode cc pc = .ok (.iastore, 1)) (kk : ∀ (H1 : Heap) (locs1 : List Loc), WS G ad cI cZ s (st σ 11 (Int32.toNatClampNeg i) x) H1 locs1 → W p l e R s m args below meth c H1 locs1 cells slots Q (F0 m (pc + 1) ls rest)) : W p l e R s m args below meth c H locs cells slots Q (F0 m pc ls (.int x :: .int i :: .ref (ad 11) :: rest)) :=
  va_iast C.1 C.2.1 C.2.2.2.2.1 hW.1 hD.d hW.2 11 0 rfl rfl (inB_in hin) hd (fun H1 locs1 h1 _ h3 => kk H1 locs1 ⟨h1, h3⟩)
theorem as_12 (C : CX own cc p s m args c G cI cZ) (hD : DX ad) (hW : WS G ad cI cZ s σ H locs) {i x : Int32} (hin : inB i 20 = true) (hd : decode cc pc = .ok (.iastore, 1)) (kk : ∀ (H1 : Heap) (locs1 : List Loc), WS G ad cI cZ s (st σ 12 (Int32.toNatClampNeg i) x) H1 locs1 → W p l e R s m args below meth c H1 locs1 cells slots Q (F0 m (pc + 1) ls rest)) : W p l e R s m args below meth c H locs cells slots Q (F0 m pc ls (.int x :: .int i :: .ref (ad 12) :: rest)) :=
  va_iast C.1 C.2.1 C.2.2.2.2.1 hW.1 hD.d hW.2 12 0 rfl rfl (inB_in hin) hd (fun H1 locs1 h1 _ h3 => kk H1 locs1 ⟨h1, h3⟩)
theorem as_13 (C : CX own cc p s m args c G cI cZ) (hD : DX ad) (hW : WS G ad cI cZ s σ H locs) {i x : Int32} (hin : inB i 20 = true) (hd : decode cc pc = .ok (.iastore, 1)) (kk : ∀ (H1 : Heap) (locs1 : List Loc), WS G ad cI cZ s (st σ 13 (Int32.toNatClampNeg i) x) H1 locs1 → W p l e R s m args below meth c H1 locs1 cells slots Q (F0 m (pc + 1) ls rest)) : W p l e R s m args below meth c H locs cells slots Q (F0 m pc ls (.int x :: .int i :: .ref (ad 13) :: rest)) :=
  va_iast C.1 C.2.1 C.2.2.2.2.1 hW.1 hD.d hW.2 13 0 rfl rfl (inB_in hin) hd (fun H1 locs1 h1 _ h3 => kk H1 locs1 ⟨h1, h3⟩)
theorem as_14 (C : CX own cc p s m args c G cI cZ) (hD : DX ad) (hW : WS G ad cI cZ s σ H locs) {i x : Int32} (hin : inB i 20 = true) (hd : decode cc pc = .ok (.iastore, 1)) (kk : ∀ (H1 : Heap) (locs1 : List Loc), WS G ad cI cZ s (st σ 14 (Int32.toNatClampNeg i) x) H1 locs1 → W p l e R s m args below meth c H1 locs1 cells slots Q (F0 m (pc + 1) ls rest)) : W p l e R s m args below meth c H locs cells slots Q (F0 m pc ls (.int x :: .int i :: .ref (ad 14) :: rest)) :=
  va_iast C.1 C.2.1 C.2.2.2.2.1 hW.1 hD.d hW.2 14 0 rfl rfl (inB_in hin) hd (fun H1 locs1 h1 _ h3 => kk H1 locs1 ⟨h1, h3⟩)
theorem as_15 (C : CX own cc p s m args c G cI cZ) (hD : DX ad) (hW : WS G ad cI cZ s σ H locs) {i x : Int32} (hin : inB i 20 = true) (hd : decode cc pc = .ok (.iastore, 1)) (kk : ∀ (H1 : Heap) (locs1 : List Loc), WS G ad cI cZ s (st σ 15 (Int32.toNatClampNeg i) x) H1 locs1 → W p l e R s m args below meth c H1 locs1 cells slots Q (F0 m (pc + 1) ls rest)) : W p l e R s m args below meth c H locs cells slots Q (F0 m pc ls (.int x :: .int i :: .ref (ad 15) :: rest)) :=
  va_iast C.1 C.2.1 C.2.2.2.2.1 hW.1 hD.d hW.2 15 0 rfl rfl (inB_in hin) hd (fun H1 locs1 h1 _ h3 => kk H1 locs1 ⟨h1, h3⟩)
theorem as_16 (C : CX own cc p s m args c G cI cZ) (hD : DX ad) (hW : WS G ad cI cZ s σ H locs) {i x : Int32} (hin : inB i 20 = true) (hd : decode cc pc = .ok (.bastore, 1)) (kk : ∀ (H1 : Heap) (locs1 : List Loc), WS G ad cI cZ s (st σ 16 (Int32.toNatClampNeg i) (vp_nar .boolean x)) H1 locs1 → W p l e R s m args below meth c H1 locs1 cells slots Q (F0 m (pc + 1) ls rest)) : W p l e R s m args below meth c H locs cells slots Q (F0 m pc ls (.int x :: .int i :: .ref (ad 16) :: rest)) :=
  va_zast C.1 C.2.1 C.2.2.2.2.1 hW.1 hD.d hW.2 16 1 rfl rfl (inB_in hin) hd (fun H1 locs1 h1 _ h3 => kk H1 locs1 ⟨h1, h3⟩)
theorem as_17 (C : CX own cc p s m args c G cI cZ) (hD : DX ad) (hW : WS G ad cI cZ s σ H locs) {i x : Int32} (hin : inB i 20 = true) (hd : decode cc pc = .ok (.iastore, 1)) (kk : ∀ (H1 : Heap) (locs1 : List Loc), WS G ad cI cZ s (st σ 17 (Int32.toNatClampNeg i) x) H1 locs1 → W p l e R s m args below meth c H1 locs1 cells slots Q (F0 m (pc + 1) ls rest)) : W p l e R s m args below meth c H locs cells slots Q (F0 m pc ls (.int x :: .int i :: .ref (ad 17) :: rest)) :=
  va_iast C.1 C.2.1 C.2.2.2.2.1 hW.1 hD.d hW.2 17 0 rfl rfl (inB_in hin) hd (fun H1 locs1 h1 _ h3 => kk H1 locs1 ⟨h1, h3⟩)
theorem as_18 (C : CX own cc p s m args c G cI cZ) (hD : DX ad) (hW : WS G ad cI cZ s σ H locs) {i x : Int32} (hin : inB i 800 = true) (hd : decode cc pc = .ok (.iastore, 1)) (kk : ∀ (H1 : Heap) (locs1 : List Loc), WS G ad cI cZ s (st σ 18 (Int32.toNatClampNeg i) x) H1 locs1 → W p l e R s m args below meth c H1 locs1 cells slots Q (F0 m (pc + 1) ls rest)) : W p l e R s m args below meth c H locs cells slots Q (F0 m pc ls (.int x :: .int i :: .ref (ad 18) :: rest)) :=
  va_iast C.1 C.2.1 C.2.2.2.2.1 hW.1 hD.d hW.2 18 0 rfl rfl (inB_in hin) hd (fun H1 locs1 h1 _ h3 => kk H1 locs1 ⟨h1, h3⟩)
theorem as_19 (C : CX own cc p s m args c G cI cZ) (hD : DX ad) (hW : WS G ad cI cZ s σ H locs) {i x : Int32} (hin : inB i 800 = true) (hd : decode cc pc = .ok (.iastore, 1)) (kk : ∀ (H1 : Heap) (locs1 : List Loc), WS G ad cI cZ s (st σ 19 (Int32.toNatClampNeg i) x) H1 locs1 → W p l e R s m args below meth c H1 locs1 cells slots Q (F0 m (pc + 1) ls rest)) : W p l e R s m args below meth c H locs cells slots Q (F0 m pc ls (.int x :: .int i :: .ref (ad 19) :: rest)) :=
  va_iast C.1 C.2.1 C.2.2.2.2.1 hW.1 hD.d hW.2 19 0 rfl rfl (inB_in hin) hd (fun H1 locs1 h1 _ h3 => kk H1 locs1 ⟨h1, h3⟩)
theorem as_20 (C : CX own cc p s m args c G cI cZ) (hD : DX ad) (hW : WS G ad cI cZ s σ H locs) {i x : Int32} (hin : inB i 800 = true) (hd : decode cc pc = .ok (.iastore, 1)) (kk : ∀ (H1 : Heap) (locs1 : List Loc), WS G ad cI cZ s (st σ 20 (Int32.toNatClampNeg i) x) H1 locs1 → W p l e R s m args below meth c H1 locs1 cells slots Q (F0 m (pc + 1) ls rest)) : W p l e R s m args below meth c H locs cells slots Q (F0 m pc ls (.int x :: .int i :: .ref (ad 20) :: rest)) :=
  va_iast C.1 C.2.1 C.2.2.2.2.1 hW.1 hD.d hW.2 20 0 rfl rfl (inB_in hin) hd (fun H1 locs1 h1 _ h3 => kk H1 locs1 ⟨h1, h3⟩)
theorem as_21 (C : CX own cc p s m args c G cI cZ) (hD : DX ad) (hW : WS G ad cI cZ s σ H locs) {i x : Int32} (hin : inB i 40 = true) (hd : decode cc pc = .ok (.iastore, 1)) (kk : ∀ (H1 : Heap) (locs1 : List Loc), WS G ad cI cZ s (st σ 21 (Int32.toNatClampNeg i) x) H1 locs1 → W p l e R s m args below meth c H1 locs1 cells slots Q (F0 m (pc + 1) ls rest)) : W p l e R s m args below meth c H locs cells slots Q (F0 m pc ls (.int x :: .int i :: .ref (ad 21) :: rest)) :=
  va_iast C.1 C.2.1 C.2.2.2.2.1 hW.1 hD.d hW.2 21 0 rfl rfl (inB_in hin) hd (fun H1 locs1 h1 _ h3 => kk H1 locs1 ⟨h1, h3⟩)
theorem as_22 (C : CX own cc p s m args c G cI cZ) (hD : DX ad) (hW : WS G ad cI cZ s σ H locs) {i x : Int32} (hin : inB i 40 = true) (hd : decode cc pc = .ok (.iastore, 1)) (kk : ∀ (H1 : Heap) (locs1 : List Loc), WS G ad cI cZ s (st σ 22 (Int32.toNatClampNeg i) x) H1 locs1 → W p l e R s m args below meth c H1 locs1 cells slots Q (F0 m (pc + 1) ls rest)) : W p l e R s m args below meth c H locs cells slots Q (F0 m pc ls (.int x :: .int i :: .ref (ad 22) :: rest)) :=
  va_iast C.1 C.2.1 C.2.2.2.2.1 hW.1 hD.d hW.2 22 0 rfl rfl (inB_in hin) hd (fun H1 locs1 h1 _ h3 => kk H1 locs1 ⟨h1, h3⟩)
theorem as_23 (C : CX own cc p s m args c G cI cZ) (hD : DX ad) (hW : WS G ad cI cZ s σ H locs) {i x : Int32} (hin : inB i 40 = true) (hd : decode cc pc = .ok (.iastore, 1)) (kk : ∀ (H1 : Heap) (locs1 : List Loc), WS G ad cI cZ s (st σ 23 (Int32.toNatClampNeg i) x) H1 locs1 → W p l e R s m args below meth c H1 locs1 cells slots Q (F0 m (pc + 1) ls rest)) : W p l e R s m args below meth c H locs cells slots Q (F0 m pc ls (.int x :: .int i :: .ref (ad 23) :: rest)) :=
  va_iast C.1 C.2.1 C.2.2.2.2.1 hW.1 hD.d hW.2 23 0 rfl rfl (inB_in hin) hd (fun H1 locs1 h1 _ h3 => kk H1 locs1 ⟨h1, h3⟩)
theorem as_24 (C : CX own cc p s m args c G cI cZ) (hD : DX ad) (hW : WS G ad cI cZ s σ H locs) {i x : Int32} (hin : inB i 40 = true) (hd : decode cc pc = .ok (.iastore, 1)) (kk : ∀ (H1 : Heap) (locs1 : List Loc), WS G ad cI cZ s (st σ 24 (Int32.toNatClampNeg i) x) H1 locs1 → W p l e R s m args below meth c H1 locs1 cells slots Q (F0 m (pc + 1) ls rest)) : W p l e R s m args below meth c H locs cells slots Q (F0 m pc ls (.int x :: .int i :: .ref (ad 24) :: rest)) :=
  va_iast C.1 C.2.1 C.2.2.2.2.1 hW.1 hD.d hW.2 24 0 rfl rfl (inB_in hin) hd (fun H1 locs1 h1 _ h3 => kk H1 locs1 ⟨h1, h3⟩)
theorem as_25 (C : CX own cc p s m args c G cI cZ) (hD : DX ad) (hW : WS G ad cI cZ s σ H locs) {i x : Int32} (hin : inB i 30 = true) (hd : decode cc pc = .ok (.iastore, 1)) (kk : ∀ (H1 : Heap) (locs1 : List Loc), WS G ad cI cZ s (st σ 25 (Int32.toNatClampNeg i) x) H1 locs1 → W p l e R s m args below meth c H1 locs1 cells slots Q (F0 m (pc + 1) ls rest)) : W p l e R s m args below meth c H locs cells slots Q (F0 m pc ls (.int x :: .int i :: .ref (ad 25) :: rest)) :=
  va_iast C.1 C.2.1 C.2.2.2.2.1 hW.1 hD.d hW.2 25 0 rfl rfl (inB_in hin) hd (fun H1 locs1 h1 _ h3 => kk H1 locs1 ⟨h1, h3⟩)
theorem as_26 (C : CX own cc p s m args c G cI cZ) (hD : DX ad) (hW : WS G ad cI cZ s σ H locs) {i x : Int32} (hin : inB i 30 = true) (hd : decode cc pc = .ok (.iastore, 1)) (kk : ∀ (H1 : Heap) (locs1 : List Loc), WS G ad cI cZ s (st σ 26 (Int32.toNatClampNeg i) x) H1 locs1 → W p l e R s m args below meth c H1 locs1 cells slots Q (F0 m (pc + 1) ls rest)) : W p l e R s m args below meth c H locs cells slots Q (F0 m pc ls (.int x :: .int i :: .ref (ad 26) :: rest)) :=
  va_iast C.1 C.2.1 C.2.2.2.2.1 hW.1 hD.d hW.2 26 0 rfl rfl (inB_in hin) hd (fun H1 locs1 h1 _ h3 => kk H1 locs1 ⟨h1, h3⟩)
theorem as_27 (C : CX own cc p s m args c G cI cZ) (hD : DX ad) (hW : WS G ad cI cZ s σ H locs) {i x : Int32} (hin : inB i 30 = true) (hd : decode cc pc = .ok (.iastore, 1)) (kk : ∀ (H1 : Heap) (locs1 : List Loc), WS G ad cI cZ s (st σ 27 (Int32.toNatClampNeg i) x) H1 locs1 → W p l e R s m args below meth c H1 locs1 cells slots Q (F0 m (pc + 1) ls rest)) : W p l e R s m args below meth c H locs cells slots Q (F0 m pc ls (.int x :: .int i :: .ref (ad 27) :: rest)) :=
  va_iast C.1 C.2.1 C.2.2.2.2.1 hW.1 hD.d hW.2 27 0 rfl rfl (inB_in hin) hd (fun H1 locs1 h1 _ h3 => kk H1 locs1 ⟨h1, h3⟩)
theorem as_28 (C : CX own cc p s m args c G cI cZ) (hD : DX ad) (hW : WS G ad cI cZ s σ H locs) {i x : Int32} (hin : inB i 30 = true) (hd : decode cc pc = .ok (.iastore, 1)) (kk : ∀ (H1 : Heap) (locs1 : List Loc), WS G ad cI cZ s (st σ 28 (Int32.toNatClampNeg i) x) H1 locs1 → W p l e R s m args below meth c H1 locs1 cells slots Q (F0 m (pc + 1) ls rest)) : W p l e R s m args below meth c H locs cells slots Q (F0 m pc ls (.int x :: .int i :: .ref (ad 28) :: rest)) :=
  va_iast C.1 C.2.1 C.2.2.2.2.1 hW.1 hD.d hW.2 28 0 rfl rfl (inB_in hin) hd (fun H1 locs1 h1 _ h3 => kk H1 locs1 ⟨h1, h3⟩)
theorem as_29 (C : CX own cc p s m args c G cI cZ) (hD : DX ad) (hW : WS G ad cI cZ s σ H locs) {i x : Int32} (hin : inB i 20 = true) (hd : decode cc pc = .ok (.iastore, 1)) (kk : ∀ (H1 : Heap) (locs1 : List Loc), WS G ad cI cZ s (st σ 29 (Int32.toNatClampNeg i) x) H1 locs1 → W p l e R s m args below meth c H1 locs1 cells slots Q (F0 m (pc + 1) ls rest)) : W p l e R s m args below meth c H locs cells slots Q (F0 m pc ls (.int x :: .int i :: .ref (ad 29) :: rest)) :=
  va_iast C.1 C.2.1 C.2.2.2.2.1 hW.1 hD.d hW.2 29 0 rfl rfl (inB_in hin) hd (fun H1 locs1 h1 _ h3 => kk H1 locs1 ⟨h1, h3⟩)
theorem as_30 (C : CX own cc p s m args c G cI cZ) (hD : DX ad) (hW : WS G ad cI cZ s σ H locs) {i x : Int32} (hin : inB i 20 = true) (hd : decode cc pc = .ok (.iastore, 1)) (kk : ∀ (H1 : Heap) (locs1 : List Loc), WS G ad cI cZ s (st σ 30 (Int32.toNatClampNeg i) x) H1 locs1 → W p l e R s m args below meth c H1 locs1 cells slots Q (F0 m (pc + 1) ls rest)) : W p l e R s m args below meth c H locs cells slots Q (F0 m pc ls (.int x :: .int i :: .ref (ad 30) :: rest)) :=
  va_iast C.1 C.2.1 C.2.2.2.2.1 hW.1 hD.d hW.2 30 0 rfl rfl (inB_in hin) hd (fun H1 locs1 h1 _ h3 => kk H1 locs1 ⟨h1, h3⟩)
theorem as_31 (C : CX own cc p s m args c G cI cZ) (hD : DX ad) (hW : WS G ad cI cZ s σ H locs) {i x : Int32} (hin : inB i 20 = true) (hd : decode cc pc = .ok (.iastore, 1)) (kk : ∀ (H1 : Heap) (locs1 : List Loc), WS G ad cI cZ s (st σ 31 (Int32.toNatClampNeg i) x) H1 locs1 → W p l e R s m args below meth c H1 locs1 cells slots Q (F0 m (pc + 1) ls rest)) : W p l e R s m args below meth c H locs cells slots Q (F0 m pc ls (.int x :: .int i :: .ref (ad 31) :: rest)) :=
  va_iast C.1 C.2.1 C.2.2.2.2.1 hW.1 hD.d hW.2 31 0 rfl rfl (inB_in hin) hd (fun H1 locs1 h1 _ h3 => kk H1 locs1 ⟨h1, h3⟩)
theorem pf_PM_59 (C : CX "PlaceMoves" cc p s m args c G cI cZ) (hD : DX ad) (hW : WS G ad cI cZ s σ H locs) {x : Int32} (hd : decode cc pc = .ok (.putfield 59, 3)) (kk : ∀ (H1 : Heap) (locs1 : List Loc), WS G ad cI cZ s (st σ 0 0 x) H1 locs1 → W p l e R s m args below meth c H1 locs1 cells slots Q (F0 m (pc + 3) ls rest)) : W p l e R s m args below meth c H locs cells slots Q (F0 m pc ls (.int x :: .ref (ad 0) :: rest)) :=
  va_put (D := G) (ci := 0) (v := .int x) (ty := .int) (C := "PlaceMoves") (T := F_PM) (N := 9) C.1 C.2.1 C.2.2.2.1 i_PM t_PM t_PM_ok n_PM C.2.2.1 C.2.2.2.2.1 hW.1 hD.d hW.2 0 rfl rfl 8 (by decide) (C.2.2.2.1 _ w_184) (fun _ h9 => h9) rfl (by decide +kernel) rfl rfl (Nat.le_of_ble_eq_true rfl) hd (fun H1 locs1 h1 _ h3 => kk H1 locs1 ⟨h1, h3⟩)
theorem pf_Places_18 (C : CX "PlaceMoves$Places" cc p s m args c G cI cZ) (hD : DX ad) (hW : WS G ad cI cZ s σ H locs) {x : Int32} (hd : decode cc pc = .ok (.putfield 18, 3)) (kk : ∀ (H1 : Heap) (locs1 : List Loc), WS G ad cI cZ s (st σ 1 0 x) H1 locs1 → W p l e R s m args below meth c H1 locs1 cells slots Q (F0 m (pc + 3) ls rest)) : W p l e R s m args below meth c H locs cells slots Q (F0 m pc ls (.int x :: .ref (ad 1) :: rest)) :=
  va_put (D := G) (ci := 1) (v := .int x) (ty := .int) (C := "PlaceMoves$Places") (T := F_Places) (N := 3) C.1 C.2.1 C.2.2.2.1 i_Places t_Places t_Places_ok n_Places C.2.2.1 C.2.2.2.2.1 hW.1 hD.d hW.2 1 rfl rfl 2 (by decide) (C.2.2.2.1 _ w_33) (fun _ h9 => h9) rfl (by decide +kernel) rfl rfl (Nat.le_of_ble_eq_true rfl) hd (fun H1 locs1 h1 _ h3 => kk H1 locs1 ⟨h1, h3⟩)
theorem pf_Things_31 (C : CX "PlaceMoves$Things" cc p s m args c G cI cZ) (hD : DX ad) (hW : WS G ad cI cZ s σ H locs) {x : Int32} (hd : decode cc pc = .ok (.putfield 31, 3)) (kk : ∀ (H1 : Heap) (locs1 : List Loc), WS G ad cI cZ s (st σ 2 0 x) H1 locs1 → W p l e R s m args below meth c H1 locs1 cells slots Q (F0 m (pc + 3) ls rest)) : W p l e R s m args below meth c H locs cells slots Q (F0 m pc ls (.int x :: .ref (ad 2) :: rest)) :=
  va_put (D := G) (ci := 2) (v := .int x) (ty := .int) (C := "PlaceMoves$Things") (T := F_Things) (N := 7) C.1 C.2.1 C.2.2.2.1 i_Things t_Things t_Things_ok n_Things C.2.2.1 C.2.2.2.2.1 hW.1 hD.d hW.2 2 rfl rfl 6 (by decide) (C.2.2.2.1 _ w_61) (fun _ h9 => h9) rfl (by decide +kernel) rfl rfl (Nat.le_of_ble_eq_true rfl) hd (fun H1 locs1 h1 _ h3 => kk H1 locs1 ⟨h1, h3⟩)
theorem pf_Rows_24 (C : CX "PlaceMoves$Rows" cc p s m args c G cI cZ) (hD : DX ad) (hW : WS G ad cI cZ s σ H locs) {x : Int32} (hd : decode cc pc = .ok (.putfield 24, 3)) (kk : ∀ (H1 : Heap) (locs1 : List Loc), WS G ad cI cZ s (st σ 3 0 x) H1 locs1 → W p l e R s m args below meth c H1 locs1 cells slots Q (F0 m (pc + 3) ls rest)) : W p l e R s m args below meth c H locs cells slots Q (F0 m pc ls (.int x :: .ref (ad 3) :: rest)) :=
  va_put (D := G) (ci := 3) (v := .int x) (ty := .int) (C := "PlaceMoves$Rows") (T := F_Rows) (N := 5) C.1 C.2.1 C.2.2.2.1 i_Rows t_Rows t_Rows_ok n_Rows C.2.2.1 C.2.2.2.2.1 hW.1 hD.d hW.2 3 rfl rfl 4 (by decide) (C.2.2.2.1 _ w_93) (fun _ h9 => h9) rfl (by decide +kernel) rfl rfl (Nat.le_of_ble_eq_true rfl) hd (fun H1 locs1 h1 _ h3 => kk H1 locs1 ⟨h1, h3⟩)
theorem pf_Doors_24 (C : CX "PlaceMoves$Doors" cc p s m args c G cI cZ) (hD : DX ad) (hW : WS G ad cI cZ s σ H locs) {x : Int32} (hd : decode cc pc = .ok (.putfield 24, 3)) (kk : ∀ (H1 : Heap) (locs1 : List Loc), WS G ad cI cZ s (st σ 4 0 x) H1 locs1 → W p l e R s m args below meth c H1 locs1 cells slots Q (F0 m (pc + 3) ls rest)) : W p l e R s m args below meth c H locs cells slots Q (F0 m pc ls (.int x :: .ref (ad 4) :: rest)) :=
  va_put (D := G) (ci := 4) (v := .int x) (ty := .int) (C := "PlaceMoves$Doors") (T := F_Doors) (N := 5) C.1 C.2.1 C.2.2.2.1 i_Doors t_Doors t_Doors_ok n_Doors C.2.2.1 C.2.2.2.2.1 hW.1 hD.d hW.2 4 rfl rfl 4 (by decide) (C.2.2.2.1 _ w_116) (fun _ h9 => h9) rfl (by decide +kernel) rfl rfl (Nat.le_of_ble_eq_true rfl) hd (fun H1 locs1 h1 _ h3 => kk H1 locs1 ⟨h1, h3⟩)
theorem pf_Plans_24 (C : CX "PlaceMoves$Plans" cc p s m args c G cI cZ) (hD : DX ad) (hW : WS G ad cI cZ s σ H locs) {x : Int32} (hd : decode cc pc = .ok (.putfield 24, 3)) (kk : ∀ (H1 : Heap) (locs1 : List Loc), WS G ad cI cZ s (st σ 5 0 x) H1 locs1 → W p l e R s m args below meth c H1 locs1 cells slots Q (F0 m (pc + 3) ls rest)) : W p l e R s m args below meth c H locs cells slots Q (F0 m pc ls (.int x :: .ref (ad 5) :: rest)) :=
  va_put (D := G) (ci := 5) (v := .int x) (ty := .int) (C := "PlaceMoves$Plans") (T := F_Plans) (N := 5) C.1 C.2.1 C.2.2.2.1 i_Plans t_Plans t_Plans_ok n_Plans C.2.2.1 C.2.2.2.2.1 hW.1 hD.d hW.2 5 rfl rfl 4 (by decide) (C.2.2.2.1 _ w_142) (fun _ h9 => h9) rfl (by decide +kernel) rfl rfl (Nat.le_of_ble_eq_true rfl) hd (fun H1 locs1 h1 _ h3 => kk H1 locs1 ⟨h1, h3⟩)
theorem pf_QuietTimes_21 (C : CX "PlaceMoves$QuietTimes" cc p s m args c G cI cZ) (hD : DX ad) (hW : WS G ad cI cZ s σ H locs) {x : Int32} (hd : decode cc pc = .ok (.putfield 21, 3)) (kk : ∀ (H1 : Heap) (locs1 : List Loc), WS G ad cI cZ s (st σ 6 0 x) H1 locs1 → W p l e R s m args below meth c H1 locs1 cells slots Q (F0 m (pc + 3) ls rest)) : W p l e R s m args below meth c H locs cells slots Q (F0 m pc ls (.int x :: .ref (ad 6) :: rest)) :=
  va_put (D := G) (ci := 6) (v := .int x) (ty := .int) (C := "PlaceMoves$QuietTimes") (T := F_QuietTimes) (N := 4) C.1 C.2.1 C.2.2.2.1 i_QuietTimes t_QuietTimes t_QuietTimes_ok n_QuietTimes C.2.2.1 C.2.2.2.2.1 hW.1 hD.d hW.2 6 rfl rfl 3 (by decide) (C.2.2.2.1 _ w_165) (fun _ h9 => h9) rfl (by decide +kernel) rfl rfl (Nat.le_of_ble_eq_true rfl) hd (fun H1 locs1 h1 _ h3 => kk H1 locs1 ⟨h1, h3⟩)
end RXM
end
section
def f_Places_add (σ : Sg) (x1 : Int32) (x2 : Int32) : Option (Int32 × Sg) :=
  gd (inB (σ 1 0) 24) <| lt1 (st σ 9 (Int32.toNatClampNeg (σ 1 0)) x2) fun σ1 => (f_Places_around σ1 x1).bind fun r2 => gd (inB (σ 1 0) 24) <| lt1 (st σ1 10 (Int32.toNatClampNeg (σ 1 0)) (r2 ||| (1 <<< ((σ 1 0) &&& 31)))) fun σ3 => lt1 (st σ3 1 0 ((σ 1 0) + 1)) fun σ4 => some (σ 1 0, σ4)
def f_Things_add (σ : Sg) (x1 : Int32) (x2 : Int32) (x3 : Int32) (x4 : Int32) : Option (Int32 × Sg) :=
  gd (inB (σ 2 0) 20) <| lt1 (st σ 11 (Int32.toNatClampNeg (σ 2 0)) (if (if x3 < x2 then x3 else x2) < x1 then if x3 < x2 then x3 else x2 else x1)) fun σ1 => gd (inB (σ 2 0) 20) <| lt1 (st σ1 13 (Int32.toNatClampNeg (σ 2 0)) (if x1 < (if x2 < x3 then x3 else x2) then if x2 < x3 then x3 else x2 else x1)) fun σ2 => gd (inB (σ 2 0) 20) <| gd (inB (σ 2 0) 20) <| gd (inB (σ 2 0) 20) <| lt1 (st σ2 12 (Int32.toNatClampNeg (σ 2 0)) ((((x1 + x2) + x3) - (σ2 11 (Int32.toNatClampNeg (σ 2 0)))) - (σ2 13 (Int32.toNatClampNeg (σ 2 0))))) fun σ3 => gd (inB (σ 2 0) 20) <| lt1 (st σ3 14 (Int32.toNatClampNeg (σ 2 0)) x4) fun σ4 => lt1 (st σ4 2 0 ((σ 2 0) + 1)) fun σ5 => some (σ 2 0, σ5)
def f_Rows_add (σ : Sg) (x1 : Int32) (x2 : Int32) (x3 : Int32) (x4 : Int32) : Option (Sg) :=
  gd (inB x1 20) <| (f_Rows_index σ x1 (σ 17 (Int32.toNatClampNeg x1))).bind fun r1 => gd (inB r1 800) <| lt1 (st σ 18 (Int32.toNatClampNeg r1) x2) fun σ2 => gd (inB r1 800) <| lt1 (st σ2 19 (Int32.toNatClampNeg r1) x3) fun σ3 => gd (inB r1 800) <| lt1 (st σ3 20 (Int32.toNatClampNeg r1) x4) fun σ4 => gd (inB x1 20) <| gd (inB x1 20) <| lt1 (st σ4 17 (Int32.toNatClampNeg x1) ((σ4 17 (Int32.toNatClampNeg x1)) + 1)) fun σ5 => lt1 (st σ5 3 0 ((σ5 3 0) + 1)) fun σ6 => some σ6
def B_PM_weighAt_40  (k40 : Int32 → Int32 → Sg → Option (Sg)) (x1 : Int32) (x2 : Int32) (σ : Sg) : Option (Sg) :=
  if (σ 5 0) ≤ x2 then (some σ) else ((f_Plans_covers σ x2 x1).bind fun r4 => if r4 = 0 then (k40 x1 (x2 + 1) σ) else (gd (inB x2 30) <| gd (inB (σ 25 (Int32.toNatClampNeg x2)) 20) <| gd (inB x2 30) <| (f_Places_around σ (σ 26 (Int32.toNatClampNeg x2))).bind fun r5 => gd (inB (σ 25 (Int32.toNatClampNeg x2)) 20) <| lt1 (st σ 8 (Int32.toNatClampNeg (σ 25 (Int32.toNatClampNeg x2))) ((σ 8 (Int32.toNatClampNeg (σ 25 (Int32.toNatClampNeg x2)))) ||| r5)) fun σ6 => k40 x1 (x2 + 1) σ6))
def L_PM_weighAt_40  : Nat → Int32 → Int32 → Sg → Option (Sg) := itr (B_PM_weighAt_40) (fun _ _ _ => none)
def B_PM_weighAt_2  (k2 : Int32 → Int32 → Sg → Option (Sg)) (x1 : Int32) (x2 : Int32) (σ : Sg) : Option (Sg) :=
  if (σ 2 0) ≤ x2 then (L_PM_weighAt_40 fuel x1 0 σ) else ((f_PM_placeAt σ x2 x1).bind fun r1 => (f_Places_around σ r1).bind fun r2 => gd (inB x2 20) <| lt1 (st σ 8 (Int32.toNatClampNeg x2) r2) fun σ3 => k2 x1 (x2 + 1) σ3)
def L_PM_weighAt_2  : Nat → Int32 → Int32 → Sg → Option (Sg) := itr (B_PM_weighAt_2) (fun _ _ _ => none)
def f_PM_weighAt (σ : Sg) (x1 : Int32) : Option (Sg) :=
  L_PM_weighAt_2 fuel x1 0 σ
def B_PM_loadsHoldAt_7  (k7 : Int32 → Int32 → Sg → Option (Int32 × Sg)) (x1 : Int32) (x3 : Int32) (σ : Sg) : Option (Int32 × Sg) :=
  if (σ 1 0) ≤ x3 then (some (1, σ)) else ((f_Places_liesIn σ x1 x3).bind fun r2 => if r2 = 0 then (k7 x1 (x3 + 1) σ) else ((f_PM_weightOf σ x3).bind fun r3 => gd (inB x3 24) <| if r3 ≤ (σ 9 (Int32.toNatClampNeg x3)) then (k7 x1 (x3 + 1) σ) else (some (0, σ))))
def L_PM_loadsHoldAt_7  : Nat → Int32 → Int32 → Sg → Option (Int32 × Sg) := itr (B_PM_loadsHoldAt_7) (fun _ _ _ => none)
def f_PM_loadsHoldAt (σ : Sg) (x1 : Int32) (x2 : Int32) : Option (Int32 × Sg) :=
  (f_PM_weighAt σ x2).bind fun r1 => L_PM_loadsHoldAt_7 fuel x1 0 r1
def B_PM_loadsHold_14  (k14 : Int32 → Int32 → Int32 → Int32 → Sg → Option (Int32 × Sg)) (x1 : Int32) (x2 : Int32) (x3 : Int32) (x4 : Int32) (σ : Sg) : Option (Int32 × Sg) :=
  if (σ 5 0) ≤ x4 then (some (1, σ)) else (gd (inB x4 30) <| lt1 (σ 27 (Int32.toNatClampNeg x4)) fun y2 => if y2 ≤ x2 then (k14 x1 x2 x3 (x4 + 1) σ) else (if x3 < y2 then (k14 x1 x2 x3 (x4 + 1) σ) else ((f_PM_loadsHoldAt σ x1 y2).bind fun r3 => if r3.1 = 0 then (some (0, r3.2)) else (k14 x1 x2 x3 (x4 + 1) r3.2))))
def L_PM_loadsHold_14  : Nat → Int32 → Int32 → Int32 → Int32 → Sg → Option (Int32 × Sg) := itr (B_PM_loadsHold_14) (fun _ _ _ _ _ => none)
def f_PM_loadsHold (σ : Sg) (x1 : Int32) (x2 : Int32) (x3 : Int32) : Option (Int32 × Sg) :=
  (f_PM_loadsHoldAt σ x1 x2).bind fun r1 => if r1.1 = 0 then (some (0, r1.2)) else (L_PM_loadsHold_14 fuel x1 x2 x3 0 r1.2)
def f_Rows_dropNewest (σ : Sg) (x1 : Int32) : Option (Sg) :=
  gd (inB x1 20) <| gd (inB x1 20) <| lt1 (st σ 17 (Int32.toNatClampNeg x1) ((σ 17 (Int32.toNatClampNeg x1)) - 1)) fun σ1 => lt1 (st σ1 3 0 ((σ1 3 0) - 1)) fun σ2 => some σ2
def f_PM_comesByRow (σ : Sg) (x1 : Int32) (x2 : Int32) (x3 : Int32) (x4 : Int32) : Option (Int32 × Sg) :=
  (f_Rows_add σ x1 x2 x3 x4).bind fun r1 => (f_PM_placeAt r1 x1 x2).bind fun r2 => if r2 = ((-1)) then (lt1 (st r1 0 0 x2) fun σ6 => some (1, σ6)) else ((f_PM_loadsHold r1 r2 x2 1000000).bind fun r3 => if r3.1 = 0 then ((f_Rows_dropNewest r3.2 x1).bind fun r4 => some (0, r4)) else (lt1 (st r3.2 0 0 x2) fun σ5 => some (1, σ5)))
def f_Doors_add (σ : Sg) (x1 : Int32) (x2 : Int32) (x3 : Int32) (x4 : Int32) : Option (Int32 × Sg) :=
  gd (inB (σ 4 0) 40) <| lt1 (st σ 21 (Int32.toNatClampNeg (σ 4 0)) x1) fun σ1 => gd (inB (σ 4 0) 40) <| lt1 (st σ1 22 (Int32.toNatClampNeg (σ 4 0)) x2) fun σ2 => gd (inB (σ 4 0) 40) <| lt1 (st σ2 23 (Int32.toNatClampNeg (σ 4 0)) (if x3 < x4 then x4 else x3)) fun σ3 => gd (inB (σ 4 0) 40) <| lt1 (st σ3 24 (Int32.toNatClampNeg (σ 4 0)) (if x4 < x3 then x4 else x3)) fun σ4 => lt1 (st σ4 4 0 ((σ 4 0) + 1)) fun σ5 => some (σ 4 0, σ5)
def f_Plans_add (σ : Sg) (x1 : Int32) (x2 : Int32) (x3 : Int32) (x4 : Int32) : Option (Sg) :=
  gd (inB (σ 5 0) 30) <| lt1 (st σ 25 (Int32.toNatClampNeg (σ 5 0)) x1) fun σ1 => gd (inB (σ1 5 0) 30) <| lt1 (st σ1 26 (Int32.toNatClampNeg (σ1 5 0)) x2) fun σ2 => gd (inB (σ2 5 0) 30) <| lt1 (st σ2 27 (Int32.toNatClampNeg (σ2 5 0)) x3) fun σ3 => gd (inB (σ3 5 0) 30) <| lt1 (st σ3 28 (Int32.toNatClampNeg (σ3 5 0)) x4) fun σ4 => lt1 (st σ4 5 0 ((σ4 5 0) + 1)) fun σ5 => some σ5
def f_Plans_dropNewest (σ : Sg)  : Option (Sg) :=
  lt1 (st σ 5 0 ((σ 5 0) - 1)) fun σ1 => some σ1
def f_QuietTimes_add (σ : Sg) (x1 : Int32) (x2 : Int32) (x3 : Int32) : Option (Sg) :=
  gd (inB (σ 6 0) 20) <| lt1 (st σ 29 (Int32.toNatClampNeg (σ 6 0)) x1) fun σ1 => gd (inB (σ1 6 0) 20) <| lt1 (st σ1 30 (Int32.toNatClampNeg (σ1 6 0)) x2) fun σ2 => gd (inB (σ2 6 0) 20) <| lt1 (st σ2 31 (Int32.toNatClampNeg (σ2 6 0)) x3) fun σ3 => lt1 (st σ3 6 0 ((σ3 6 0) + 1)) fun σ4 => some σ4
end
section
abbrev wl_Places_add : List Cond := .code ⟨"PlaceMoves$Places", "add", "(II)I"⟩ prog_3_method_2_code 4 (some FieldType.int) :: WG
set_option maxHeartbeats 4000000 in
set_option maxRecDepth 100000 in
theorem c_Places_add (l : Launch) (G : va_G) (ad : Nat → Nat) (cI cZ : ClassId) (hD : DX ad) (σ : Sg) (a1 : Int32) (a2 : Int32) (out : Int32 × Sg) (h : f_Places_add σ a1 a2 = some out) : Met l ⟨"PlaceMoves$Places", "add", "(II)I"⟩ wl_Places_add ({ frames := 1, cells := 0, slots := 0, locals := 21 } : Room) (PcX G ad cI cZ σ [.ref (ad 1), .int a1, .int a2]) (QMi G ad cI cZ out) 0 0 (AX ad) := by
  refine Met.ofW (cc := prog_3_method_2_code) (maxL := 4) (ret := (some FieldType.int)) (by decide) rfl ?_
  intro p e s m args below meth c s₁ B hml hv
  obtain ⟨rfl, hP, hK⟩ := hv
  have hx := B.exec
  have hb := B.bytes
  have hr := B.returns
  have hts0 := atoms_spec (ws := wl_Places_add) B.pre
  have hts : ∀ w ∈ WG, w.before _ s = true := fun w hw => hts0 w (List.mem_cons_of_mem _ hw)
  have hown : s.vm.findClass "PlaceMoves$Places" = some m.cls := findClass_of_methodNamed B.named
  have hlocks := B.notSynchronized
  have C : CX "PlaceMoves$Places" prog_3_method_2_code p s m _ c G cI cZ := ⟨hx, hb, hown, hts, hK⟩
  have hl := lv_entry ([.ref (ad 1), .int a1, .int a2]) (n := 4) (Nat.le_of_ble_eq_true rfl)
  rw [lg_entry_eq]
  generalize (lg_sl ([.ref (ad 1), .int a1, .int a2]) ++ List.replicate (4 - (lg_sl ([.ref (ad 1), .int a1, .int a2])).length) Slot.unset).toArray = ls at hl ⊢
  have hl : lv_has ls 4 [(0, .ref (ad 1)), (1, .int a1), (2, .int a2)] := hl
  unfold f_Places_add at h
  have hW : WS G ad cI cZ s σ s.heap [] := ⟨hP, va_S.rf⟩
  refine lv_aload_n hx hb d_Places_add_0 rfl (lv_at hl 0 rfl) ?_
  refine gf_Places_18 C hW.1 d_Places_add_1 ?_
  refine lv_istore_n (lv' := [(3, .int (σ 1 0)), (0, .ref (ad 1)), (1, .int a1), (2, .int a2)]) hx hb d_Places_add_4 rfl hl (by decide) rfl (fun ls hl => ?_)
  refine lv_aload_n hx hb d_Places_add_5 rfl (lv_at hl 1 rfl) ?_
  refine gf_Places_9 C hW.1 d_Places_add_6 ?_
  refine lv_iload_n hx hb d_Places_add_9 rfl (lv_at hl 0 rfl) ?_
  refine lv_iload_n hx hb d_Places_add_10 rfl (lv_at hl 3 rfl) ?_
  obtain ⟨hin, h⟩ := gd_some h
  refine as_9 C hD hW hin d_Places_add_11 (fun H locs hW => ?_)
  obtain ⟨σ1, e_σ1, h⟩ := lt1_some h
  rw [← e_σ1] at hW
  refine lv_aload_n hx hb d_Places_add_12 rfl (lv_at hl 1 rfl) ?_
  refine gf_Places_15 C hW.1 d_Places_add_13 ?_
  refine lv_iload_n hx hb d_Places_add_16 rfl (lv_at hl 0 rfl) ?_
  refine lv_aload_n hx hb d_Places_add_17 rfl (lv_at hl 1 rfl) ?_
  refine lv_iload_n hx hb d_Places_add_18 rfl (lv_at hl 2 rfl) ?_
  obtain ⟨r2, g_r2, h⟩ := ob_some h
  refine cl_Places_22 (rest := [.int (σ 1 0), .ref (ad 10)]) C (hml.trans hl.1.symm) hW.1 g_r2 ⟨Nat.le_of_ble_eq_true rfl, Nat.le_of_ble_eq_true rfl⟩ (Nat.le_of_ble_eq_true rfl) d_Places_add_19 ⟨Nat.zero_le _, Nat.zero_le _⟩ ?_
  refine lv_iconst (v := 1) hx hb d_Places_add_22 (by decide) ?_
  refine lv_iload_n hx hb d_Places_add_23 rfl (lv_at hl 0 rfl) ?_
  refine lv_ishl hx hb d_Places_add_24 ?_
  refine lv_ior hx hb d_Places_add_25 ?_
  obtain ⟨hin, h⟩ := gd_some h
  refine as_10 C hD hW hin d_Places_add_26 (fun H locs hW => ?_)
  obtain ⟨σ3, e_σ3, h⟩ := lt1_some h
  rw [← e_σ3] at hW
  refine lv_aload_n hx hb d_Places_add_27 rfl (lv_at hl 1 rfl) ?_
  refine lv_iload_n hx hb d_Places_add_28 rfl (lv_at hl 0 rfl) ?_
  refine lv_iconst (v := 1) hx hb d_Places_add_29 (by decide) ?_
  refine lv_iadd hx hb d_Places_add_30 ?_
  refine pf_Places_18 C hD hW d_Places_add_31 (fun H locs hW => ?_)
  obtain ⟨σ4, e_σ4, h⟩ := lt1_some h
  rw [← e_σ4] at hW
  refine lv_iload_n hx hb d_Places_add_34 rfl (lv_at hl 0 rfl) ?_
  exact W.iret hx hb hr (fun t ht _ => qm_i h ht hW) hW.2.2.2 d_Places_add_35
section RC
variable {p : Program} {l : Launch} {e : Env} {R : Room} {s : State} {m : MethodId} {args : Array Value} {below : List Frame} {meth : Method} {c : Code} {H : Heap} {locs : List Loc} {cells slots : Nat} {Q : State → Prop}
variable {cc : ByteArray} {pc : Nat} {ls : Array Slot} {rest : List Value} {G : va_G} {ad : Nat → Nat} {cI cZ : ClassId} {σ : Sg} {own : String}
theorem cl_PM_79 (C : CX "PlaceMoves" cc p s m args c G cI cZ) (hD : DX ad) (hml : c.maxLocals = ls.size) (hW : WS G ad cI cZ s σ H locs) {x1 : Int32} {x2 : Int32} {r : Int32 × Sg} (hg : f_Places_add σ x1 x2 = some r) (hR : 1 + 1 ≤ R.frames ∧ 8 + (4 + 11) + 21 ≤ R.locals) (hrest : (rest.map fun v => v.category).sum ≤ 8) (hd : decode cc pc = .ok (.invokevirtual 79, 3)) (hcs : cells + 0 ≤ R.cells ∧ slots + 0 ≤ R.slots) (kk : ∀ (H1 : Heap) (locs1 : List Loc), WS G ad cI cZ s (r.2) H1 locs1 → W p l e R s m args below meth c H1 locs1 cells slots Q (F0 m (pc + 3) ls (.int r.1 :: rest))) : W p l e R s m args below meth c H locs cells slots Q (F0 m pc ls (.int x2 :: .int x1 :: .ref (ad 1) :: rest)) :=
  va_calli (va_runV (As := [.int x1, .int x2]) (rest := rest) ⟨C.1, C.2.1, hml, C.2.2.1, C.2.2.2.1⟩ (c_Places_add l G ad cI cZ hD σ x1 x2 r hg) (cwV 2 C.2.2.2.1 (wg_V w_328 w_329 w_330 w_2 w_331) rfl rfl rfl (by decide +kernel) hR) ⟨PcX.blind, va_recv C.2.2.2.2.1 hW.1 (ci := 1) (q0 := 1) rfl rfl, fun U hU hZ => ⟨rfl, by rw [hU]; exact hW.1, C.2.2.2.2.warm hZ⟩⟩ rfl rfl rfl rfl (lv_room hrest) hd hcs) hW.2 (fun _ _ z => z) (fun _ z => z) (fun r' u t H1 locs1 ht _ hp hB _ _ hS => by subst hp; exact kk H1 locs1 ⟨by rw [← ht]; exact hB, hS⟩)
end RC
abbrev wl_Things_add : List Cond := .code ⟨"PlaceMoves$Things", "add", "(IIII)I"⟩ prog_7_method_2_code 6 (some FieldType.int) :: WG
set_option maxHeartbeats 4000000 in
set_option maxRecDepth 100000 in
theorem c_Things_add (l : Launch) (G : va_G) (ad : Nat → Nat) (cI cZ : ClassId) (hD : DX ad) (σ : Sg) (a1 : Int32) (a2 : Int32) (a3 : Int32) (a4 : Int32) (out : Int32 × Sg) (h : f_Things_add σ a1 a2 a3 a4 = some out) : Met l ⟨"PlaceMoves$Things", "add", "(IIII)I"⟩ wl_Things_add ({ frames := 1, cells := 0, slots := 0, locals := 21 } : Room) (PcX G ad cI cZ σ [.ref (ad 2), .int a1, .int a2, .int a3, .int a4]) (QMi G ad cI cZ out) 0 0 (AX ad) := by
  refine Met.ofW (cc := prog_7_method_2_code) (maxL := 6) (ret := (some FieldType.int)) (by decide) rfl ?_
  intro p e s m args below meth c s₁ B hml hv
  obtain ⟨rfl, hP, hK⟩ := hv
  have hx := B.exec
  have hb := B.bytes
  have hr := B.returns
  have hts0 := atoms_spec (ws := wl_Things_add) B.pre
  have hts : ∀ w ∈ WG, w.before _ s = true := fun w hw => hts0 w (List.mem_cons_of_mem _ hw)
  have hown : s.vm.findClass "PlaceMoves$Things" = some m.cls := findClass_of_methodNamed B.named
  have hlocks := B.notSynchronized
  have C : CX "PlaceMoves$Things" prog_7_method_2_code p s m _ c G cI cZ := ⟨hx, hb, hown, hts, hK⟩
  have hl := lv_entry ([.ref (ad 2), .int a1, .int a2, .int a3, .int a4]) (n := 6) (Nat.le_of_ble_eq_true rfl)
  rw [lg_entry_eq]
  generalize (lg_sl ([.ref (ad 2), .int a1, .int a2, .int a3, .int a4]) ++ List.replicate (6 - (lg_sl ([.ref (ad 2), .int a1, .int a2, .int a3, .int a4])).length) Slot.unset).toArray = ls at hl ⊢
  have hl : lv_has ls 6 [(0, .ref (ad 2)), (1, .int a1), (2, .int a2), (3, .int a3), (4, .int a4)] := hl
  unfold f_Things_add at h
  have hW : WS G ad cI cZ s σ s.heap [] := ⟨hP, va_S.rf⟩
  refine lv_aload_n hx hb d_Things_add_0 rfl (lv_at hl 0 rfl) ?_
  refine gf_Things_31 C hW.1 d_Things_add_1 ?_
  refine lv_istore (lv' := [(5, .int (σ 2 0)), (0, .ref (ad 2)), (1, .int a1), (2, .int a2), (3, .int a3), (4, .int a4)]) hx hb d_Things_add_4 hl (by decide) rfl (fun ls hl => ?_)
  refine lv_aload_n hx hb d_Things_add_6 rfl (lv_at hl 1 rfl) ?_
  refine gf_Things_9 C hW.1 d_Things_add_7 ?_
  refine lv_iload hx hb d_Things_add_10 (lv_at hl 0 rfl) ?_
  refine lv_iload_n hx hb d_Things_add_12 rfl (lv_at hl 2 rfl) ?_
  refine lv_iload_n hx hb d_Things_add_13 rfl (lv_at hl 3 rfl) ?_
  refine lv_iload_n hx hb d_Things_add_14 rfl (lv_at hl 4 rfl) ?_
  refine mm_Things_35 (rest := [.int a1, .int (σ 2 0), .ref (ad 11)]) C (hml.trans hl.1.symm) ⟨Nat.le_of_ble_eq_true rfl, Nat.le_of_ble_eq_true rfl⟩ (Nat.le_of_ble_eq_true rfl) d_Things_add_15 ⟨Nat.zero_le _, Nat.zero_le _⟩ ?_
  refine mm_Things_35 (rest := [.int (σ 2 0), .ref (ad 11)]) C (hml.trans hl.1.symm) ⟨Nat.le_of_ble_eq_true rfl, Nat.le_of_ble_eq_true rfl⟩ (Nat.le_of_ble_eq_true rfl) d_Things_add_18 ⟨Nat.zero_le _, Nat.zero_le _⟩ ?_
  obtain ⟨hin, h⟩ := gd_some h
  refine as_11 C hD hW hin d_Things_add_21 (fun H locs hW => ?_)
  obtain ⟨σ1, e_σ1, h⟩ := lt1_some h
  rw [← e_σ1] at hW
  refine lv_aload_n hx hb d_Things_add_22 rfl (lv_at hl 1 rfl) ?_
  refine gf_Things_18 C hW.1 d_Things_add_23 ?_
  refine lv_iload hx hb d_Things_add_26 (lv_at hl 0 rfl) ?_
  refine lv_iload_n hx hb d_Things_add_28 rfl (lv_at hl 2 rfl) ?_
  refine lv_iload_n hx hb d_Things_add_29 rfl (lv_at hl 3 rfl) ?_
  refine lv_iload_n hx hb d_Things_add_30 rfl (lv_at hl 4 rfl) ?_
  refine mm_Things_41 (rest := [.int a1, .int (σ 2 0), .ref (ad 13)]) C (hml.trans hl.1.symm) ⟨Nat.le_of_ble_eq_true rfl, Nat.le_of_ble_eq_true rfl⟩ (Nat.le_of_ble_eq_true rfl) d_Things_add_31 ⟨Nat.zero_le _, Nat.zero_le _⟩ ?_
  refine mm_Things_41 (rest := [.int (σ 2 0), .ref (ad 13)]) C (hml.trans hl.1.symm) ⟨Nat.le_of_ble_eq_true rfl, Nat.le_of_ble_eq_true rfl⟩ (Nat.le_of_ble_eq_true rfl) d_Things_add_34 ⟨Nat.zero_le _, Nat.zero_le _⟩ ?_
  obtain ⟨hin, h⟩ := gd_some h
  refine as_13 C hD hW hin d_Things_add_37 (fun H locs hW => ?_)
  obtain ⟨σ2, e_σ2, h⟩ := lt1_some h
  rw [← e_σ2] at hW
  refine lv_aload_n hx hb d_Things_add_38 rfl (lv_at hl 1 rfl) ?_
  refine gf_Things_15 C hW.1 d_Things_add_39 ?_
  refine lv_iload hx hb d_Things_add_42 (lv_at hl 0 rfl) ?_
  refine lv_iload_n hx hb d_Things_add_44 rfl (lv_at hl 2 rfl) ?_
  refine lv_iload_n hx hb d_Things_add_45 rfl (lv_at hl 3 rfl) ?_
  refine lv_iadd hx hb d_Things_add_46 ?_
  refine lv_iload_n hx hb d_Things_add_47 rfl (lv_at hl 4 rfl) ?_
  refine lv_iadd hx hb d_Things_add_48 ?_
  refine lv_aload_n hx hb d_Things_add_49 rfl (lv_at hl 1 rfl) ?_
  refine gf_Things_9 C hW.1 d_Things_add_50 ?_
  refine lv_iload hx hb d_Things_add_53 (lv_at hl 0 rfl) ?_
  obtain ⟨hin, h⟩ := gd_some h
  refine al_11 C hW.1 hin d_Things_add_55 ?_
  refine lv_isub hx hb d_Things_add_56 ?_
  refine lv_aload_n hx hb d_Things_add_57 rfl (lv_at hl 1 rfl) ?_
  refine gf_Things_18 C hW.1 d_Things_add_58 ?_
  refine lv_iload hx hb d_Things_add_61 (lv_at hl 0 rfl) ?_
  obtain ⟨hin, h⟩ := gd_some h
  refine al_13 C hW.1 hin d_Things_add_63 ?_
  refine lv_isub hx hb d_Things_add_64 ?_
  obtain ⟨hin, h⟩ := gd_some h
  refine as_12 C hD hW hin d_Things_add_65 (fun H locs hW => ?_)
  obtain ⟨σ3, e_σ3, h⟩ := lt1_some h
  rw [← e_σ3] at hW
  refine lv_aload_n hx hb d_Things_add_66 rfl (lv_at hl 1 rfl) ?_
  refine gf_Things_21 C hW.1 d_Things_add_67 ?_
  refine lv_iload hx hb d_Things_add_70 (lv_at hl 0 rfl) ?_
  refine lv_iload hx hb d_Things_add_72 (lv_at hl 5 rfl) ?_
  obtain ⟨hin, h⟩ := gd_some h
  refine as_14 C hD hW hin d_Things_add_74 (fun H locs hW => ?_)
  obtain ⟨σ4, e_σ4, h⟩ := lt1_some h
  rw [← e_σ4] at hW
  refine lv_aload_n hx hb d_Things_add_75 rfl (lv_at hl 1 rfl) ?_
  refine lv_iload hx hb d_Things_add_76 (lv_at hl 0 rfl) ?_
  refine lv_iconst (v := 1) hx hb d_Things_add_78 (by decide) ?_
  refine lv_iadd hx hb d_Things_add_79 ?_
  refine pf_Things_31 C hD hW d_Things_add_80 (fun H locs hW => ?_)
  obtain ⟨σ5, e_σ5, h⟩ := lt1_some h
  rw [← e_σ5] at hW
  refine lv_iload hx hb d_Things_add_83 (lv_at hl 0 rfl) ?_
  exact W.iret hx hb hr (fun t ht _ => qm_i h ht hW) hW.2.2.2 d_Things_add_85
section RC
variable {p : Program} {l : Launch} {e : Env} {R : Room} {s : State} {m : MethodId} {args : Array Value} {below : List Frame} {meth : Method} {c : Code} {H : Heap} {locs : List Loc} {cells slots : Nat} {Q : State → Prop}
variable {cc : ByteArray} {pc : Nat} {ls : Array Slot} {rest : List Value} {G : va_G} {ad : Nat → Nat} {cI cZ : ClassId} {σ : Sg} {own : String}
theorem cl_PM_85 (C : CX "PlaceMoves" cc p s m args c G cI cZ) (hD : DX ad) (hml : c.maxLocals = ls.size) (hW : WS G ad cI cZ s σ H locs) {x1 : Int32} {x2 : Int32} {x3 : Int32} {x4 : Int32} {r : Int32 × Sg} (hg : f_Things_add σ x1 x2 x3 x4 = some r) (hR : 1 + 1 ≤ R.frames ∧ 8 + (6 + 11) + 21 ≤ R.locals) (hrest : (rest.map fun v => v.category).sum ≤ 8) (hd : decode cc pc = .ok (.invokevirtual 85, 3)) (hcs : cells + 0 ≤ R.cells ∧ slots + 0 ≤ R.slots) (kk : ∀ (H1 : Heap) (locs1 : List Loc), WS G ad cI cZ s (r.2) H1 locs1 → W p l e R s m args below meth c H1 locs1 cells slots Q (F0 m (pc + 3) ls (.int r.1 :: rest))) : W p l e R s m args below meth c H locs cells slots Q (F0 m pc ls (.int x4 :: .int x3 :: .int x2 :: .int x1 :: .ref (ad 2) :: rest)) :=
  va_calli (va_runV (As := [.int x1, .int x2, .int x3, .int x4]) (rest := rest) ⟨C.1, C.2.1, hml, C.2.2.1, C.2.2.2.1⟩ (c_Things_add l G ad cI cZ hD σ x1 x2 x3 x4 r hg) (cwV 4 C.2.2.2.1 (wg_V w_344 w_345 w_346 w_3 w_347) rfl rfl rfl (by decide +kernel) hR) ⟨PcX.blind, va_recv C.2.2.2.2.1 hW.1 (ci := 2) (q0 := 2) rfl rfl, fun U hU hZ => ⟨rfl, by rw [hU]; exact hW.1, C.2.2.2.2.warm hZ⟩⟩ rfl rfl rfl rfl (lv_room hrest) hd hcs) hW.2 (fun _ _ z => z) (fun _ z => z) (fun r' u t H1 locs1 ht _ hp hB _ _ hS => by subst hp; exact kk H1 locs1 ⟨by rw [← ht]; exact hB, hS⟩)
end RC
abbrev wl_Rows_add : List Cond := .code ⟨"PlaceMoves$Rows", "add", "(IIII)V"⟩ prog_6_method_3_code 6 none :: WG
set_option maxHeartbeats 4000000 in
set_option maxRecDepth 100000 in
theorem c_Rows_add (l : Launch) (G : va_G) (ad : Nat → Nat) (cI cZ : ClassId) (hD : DX ad) (σ : Sg) (a1 : Int32) (a2 : Int32) (a3 : Int32) (a4 : Int32) (out : Sg) (h : f_Rows_add σ a1 a2 a3 a4 = some out) : Met l ⟨"PlaceMoves$Rows", "add", "(IIII)V"⟩ wl_Rows_add ({ frames := 1, cells := 0, slots := 0, locals := 21 } : Room) (PcX G ad cI cZ σ [.ref (ad 3), .int a1, .int a2, .int a3, .int a4]) (QMv G ad cI cZ out) 0 0 (AX ad) := by
  refine Met.ofW (cc := prog_6_method_3_code) (maxL := 6) (ret := none) (by decide) rfl ?_
  intro p e s m args below meth c s₁ B hml hv
  obtain ⟨rfl, hP, hK⟩ := hv
  have hx := B.exec
  have hb := B.bytes
  have hr := B.returns
  have hts0 := atoms_spec (ws := wl_Rows_add) B.pre
  have hts : ∀ w ∈ WG, w.before _ s = true := fun w hw => hts0 w (List.mem_cons_of_mem _ hw)
  have hown : s.vm.findClass "PlaceMoves$Rows" = some m.cls := findClass_of_methodNamed B.named
  have hlocks := B.notSynchronized
  have C : CX "PlaceMoves$Rows" prog_6_method_3_code p s m _ c G cI cZ := ⟨hx, hb, hown, hts, hK⟩
  have hl := lv_entry ([.ref (ad 3), .int a1, .int a2, .int a3, .int a4]) (n := 6) (Nat.le_of_ble_eq_true rfl)
  rw [lg_entry_eq]
  generalize (lg_sl ([.ref (ad 3), .int a1, .int a2, .int a3, .int a4]) ++ List.replicate (6 - (lg_sl ([.ref (ad 3), .int a1, .int a2, .int a3, .int a4])).length) Slot.unset).toArray = ls at hl ⊢
  have hl : lv_has ls 6 [(0, .ref (ad 3)), (1, .int a1), (2, .int a2), (3, .int a3), (4, .int a4)] := hl
  unfold f_Rows_add at h
  have hW : WS G ad cI cZ s σ s.heap [] := ⟨hP, va_S.rf⟩
  refine lv_iload_n hx hb d_Rows_add_0 rfl (lv_at hl 1 rfl) ?_
  refine lv_aload_n hx hb d_Rows_add_1 rfl (lv_at hl 0 rfl) ?_
  refine gf_Rows_9 C hW.1 d_Rows_add_2 ?_
  refine lv_iload_n hx hb d_Rows_add_5 rfl (lv_at hl 1 rfl) ?_
  obtain ⟨hin, h⟩ := gd_some h
  refine al_17 C hW.1 hin d_Rows_add_6 ?_
  obtain ⟨r1, g_r1, h⟩ := ob_some h
  refine cl_Rows_28 (rest := []) C (hml.trans hl.1.symm) hW.1 g_r1 ⟨Nat.le_of_ble_eq_true rfl, Nat.le_of_ble_eq_true rfl⟩ (Nat.le_of_ble_eq_true rfl) d_Rows_add_7 ⟨Nat.zero_le _, Nat.zero_le _⟩ ?_
  refine lv_istore (lv' := [(5, .int r1), (0, .ref (ad 3)), (1, .int a1), (2, .int a2), (3, .int a3), (4, .int a4)]) hx hb d_Rows_add_10 hl (by decide) rfl (fun ls hl => ?_)
  refine lv_aload_n hx hb d_Rows_add_12 rfl (lv_at hl 1 rfl) ?_
  refine gf_Rows_15 C hW.1 d_Rows_add_13 ?_
  refine lv_iload hx hb d_Rows_add_16 (lv_at hl 0 rfl) ?_
  refine lv_iload_n hx hb d_Rows_add_18 rfl (lv_at hl 3 rfl) ?_
  obtain ⟨hin, h⟩ := gd_some h
  refine as_18 C hD hW hin d_Rows_add_19 (fun H locs hW => ?_)
  obtain ⟨σ2, e_σ2, h⟩ := lt1_some h
  rw [← e_σ2] at hW
  refine lv_aload_n hx hb d_Rows_add_20 rfl (lv_at hl 1 rfl) ?_
  refine gf_Rows_18 C hW.1 d_Rows_add_21 ?_
  refine lv_iload hx hb d_Rows_add_24 (lv_at hl 0 rfl) ?_
  refine lv_iload_n hx hb d_Rows_add_26 rfl (lv_at hl 4 rfl) ?_
  obtain ⟨hin, h⟩ := gd_some h
  refine as_19 C hD hW hin d_Rows_add_27 (fun H locs hW => ?_)
  obtain ⟨σ3, e_σ3, h⟩ := lt1_some h
  rw [← e_σ3] at hW
  refine lv_aload_n hx hb d_Rows_add_28 rfl (lv_at hl 1 rfl) ?_
  refine gf_Rows_21 C hW.1 d_Rows_add_29 ?_
  refine lv_iload hx hb d_Rows_add_32 (lv_at hl 0 rfl) ?_
  refine lv_iload hx hb d_Rows_add_34 (lv_at hl 5 rfl) ?_
  obtain ⟨hin, h⟩ := gd_some h
  refine as_20 C hD hW hin d_Rows_add_36 (fun H locs hW => ?_)
  obtain ⟨σ4, e_σ4, h⟩ := lt1_some h
  rw [← e_σ4] at hW
  refine lv_aload_n hx hb d_Rows_add_37 rfl (lv_at hl 1 rfl) ?_
  refine gf_Rows_9 C hW.1 d_Rows_add_38 ?_
  refine lv_iload_n hx hb d_Rows_add_41 rfl (lv_at hl 2 rfl) ?_
  refine lv_dup2_11 hx hb d_Rows_add_42 rfl rfl ?_
  obtain ⟨hin, h⟩ := gd_some h
  refine al_17 C hW.1 hin d_Rows_add_43 ?_
  refine lv_iconst (v := 1) hx hb d_Rows_add_44 (by decide) ?_
  refine lv_iadd hx hb d_Rows_add_45 ?_
  obtain ⟨hin, h⟩ := gd_some h
  refine as_17 C hD hW hin d_Rows_add_46 (fun H locs hW => ?_)
  obtain ⟨σ5, e_σ5, h⟩ := lt1_some h
  rw [← e_σ5] at hW
  refine lv_aload_n hx hb d_Rows_add_47 rfl (lv_at hl 1 rfl) ?_
  refine lv_dup hx hb d_Rows_add_48 rfl ?_
  refine gf_Rows_24 C hW.1 d_Rows_add_49 ?_
  refine lv_iconst (v := 1) hx hb d_Rows_add_52 (by decide) ?_
  refine lv_iadd hx hb d_Rows_add_53 ?_
  refine pf_Rows_24 C hD hW d_Rows_add_54 (fun H locs hW => ?_)
  obtain ⟨σ6, e_σ6, h⟩ := lt1_some h
  rw [← e_σ6] at hW
  exact W.vret hx hb hr (fun t ht _ => qm_v h ht hW) hW.2.2.2 d_Rows_add_57
section RC
variable {p : Program} {l : Launch} {e : Env} {R : Room} {s : State} {m : MethodId} {args : Array Value} {below : List Frame} {meth : Method} {c : Code} {H : Heap} {locs : List Loc} {cells slots : Nat} {Q : State → Prop}
variable {cc : ByteArray} {pc : Nat} {ls : Array Slot} {rest : List Value} {G : va_G} {ad : Nat → Nat} {cI cZ : ClassId} {σ : Sg} {own : String}
theorem cl_PM_219 (C : CX "PlaceMoves" cc p s m args c G cI cZ) (hD : DX ad) (hml : c.maxLocals = ls.size) (hW : WS G ad cI cZ s σ H locs) {x1 : Int32} {x2 : Int32} {x3 : Int32} {x4 : Int32} {r : Sg} (hg : f_Rows_add σ x1 x2 x3 x4 = some r) (hR : 1 + 1 ≤ R.frames ∧ 8 + (6 + 11) + 21 ≤ R.locals) (hrest : (rest.map fun v => v.category).sum ≤ 8) (hd : decode cc pc = .ok (.invokevirtual 219, 3)) (hcs : cells + 0 ≤ R.cells ∧ slots + 0 ≤ R.slots) (kk : ∀ (H1 : Heap) (locs1 : List Loc), WS G ad cI cZ s (r) H1 locs1 → W p l e R s m args below meth c H1 locs1 cells slots Q (F0 m (pc + 3) ls rest)) : W p l e R s m args below meth c H locs cells slots Q (F0 m pc ls (.int x4 :: .int x3 :: .int x2 :: .int x1 :: .ref (ad 3) :: rest)) :=
  va_callv (va_runV (As := [.int x1, .int x2, .int x3, .int x4]) (rest := rest) ⟨C.1, C.2.1, hml, C.2.2.1, C.2.2.2.1⟩ (c_Rows_add l G ad cI cZ hD σ x1 x2 x3 x4 r hg) (cwV 4 C.2.2.2.1 (wg_V w_422 w_423 w_424 w_4 w_425) rfl rfl rfl (by decide +kernel) hR) ⟨PcX.blind, va_recv C.2.2.2.2.1 hW.1 (ci := 3) (q0 := 3) rfl rfl, fun U hU hZ => ⟨rfl, by rw [hU]; exact hW.1, C.2.2.2.2.warm hZ⟩⟩ rfl rfl rfl rfl (lv_room hrest) hd hcs) hW.2 (fun _ _ z => z) (fun _ z => z) (fun u t H1 locs1 ht _ _ hB _ _ hS => kk H1 locs1 ⟨by rw [← ht]; exact hB, hS⟩)
end RC
abbrev wl_PM_weighAt : List Cond := .code ⟨"PlaceMoves", "weighAt", "(I)V"⟩ prog_1_method_34_code 3 none :: WG
set_option maxHeartbeats 4000000 in
set_option maxRecDepth 100000 in
theorem c_PM_weighAt (l : Launch) (G : va_G) (ad : Nat → Nat) (cI cZ : ClassId) (hD : DX ad) (σ : Sg) (a1 : Int32) (out : Sg) (h : f_PM_weighAt σ a1 = some out) : Met l ⟨"PlaceMoves", "weighAt", "(I)V"⟩ wl_PM_weighAt ({ frames := 3, cells := 0, slots := 0, locals := 70 } : Room) (PcX G ad cI cZ σ [.ref (ad 0), .int a1]) (QMv G ad cI cZ out) 0 0 (AX ad) := by
  refine Met.ofW (cc := prog_1_method_34_code) (maxL := 3) (ret := none) (by decide) rfl ?_
  intro p e s m args below meth c s₁ B hml hv
  obtain ⟨rfl, hP, hK⟩ := hv
  have hx := B.exec
  have hb := B.bytes
  have hr := B.returns
  have hts0 := atoms_spec (ws := wl_PM_weighAt) B.pre
  have hts : ∀ w ∈ WG, w.before _ s = true := fun w hw => hts0 w (List.mem_cons_of_mem _ hw)
  have hown : s.vm.findClass "PlaceMoves" = some m.cls := findClass_of_methodNamed B.named
  have hlocks := B.notSynchronized
  have C : CX "PlaceMoves" prog_1_method_34_code p s m _ c G cI cZ := ⟨hx, hb, hown, hts, hK⟩
  have hl := lv_entry ([.ref (ad 0), .int a1]) (n := 3) (Nat.le_of_ble_eq_true rfl)
  rw [lg_entry_eq]
  generalize (lg_sl ([.ref (ad 0), .int a1]) ++ List.replicate (3 - (lg_sl ([.ref (ad 0), .int a1])).length) Slot.unset).toArray = ls at hl ⊢
  have hl : lv_has ls 3 [(0, .ref (ad 0)), (1, .int a1)] := hl
  unfold f_PM_weighAt at h
  have hW : WS G ad cI cZ s σ s.heap [] := ⟨hP, va_S.rf⟩
  refine lv_iconst (v := 0) hx hb d_PM_weighAt_0 (by decide) ?_
  refine lv_istore_n (lv' := [(2, .int 0), (0, .ref (ad 0)), (1, .int a1)]) hx hb d_PM_weighAt_1 rfl hl (by decide) rfl (fun ls hl => ?_)
  have k2 : ∀ (n : Nat) (x1 : Int32) (x2 : Int32) (σ : Sg) (h : L_PM_weighAt_2 n x1 x2 σ = some out) (H : Heap) (locs : List Loc) (hW : WS G ad cI cZ s σ H locs) (ls : Array Slot) (hl : lv_has ls 3 [(0, .ref (ad 0)), (1, .int x1), (2, .int x2)]), W p l e (headSpec wl_PM_weighAt ({ frames := 3, cells := 0, slots := 0, locals := 70 } : Room)).room s m (([.ref (ad 0), .int a1] : List Value).toArray) below meth c H locs 0 0 (MQ below (QMv G ad cI cZ out) (([.ref (ad 0), .int a1] : List Value).toArray) s 0 0 (AX ad)) (F0 m 2 ls []) := by
    intro n
    induction n with
    | zero =>
      intro x1 x2 σ h
      exact absurd h (by intro z; cases z)
    | succ n ih =>
      intro x1 x2 σ h H locs hW ls hl
      replace h : B_PM_weighAt_2 (L_PM_weighAt_2 n) x1 x2 σ = some out := h
      unfold B_PM_weighAt_2 at h
      refine lv_iload_n hx hb d_PM_weighAt_2 rfl (lv_at hl 2 rfl) ?_
      refine lv_aload_n hx hb d_PM_weighAt_3 rfl (lv_at hl 0 rfl) ?_
      refine gf_PM_19 C hW.1 d_PM_weighAt_4 ?_
      refine gf_PM_84 C hW.1 d_PM_weighAt_7 ?_
      refine lv_icmp_ge (tgt := 38) hx hb d_PM_weighAt_10 (by decide) (fun c1 => ?_) (fun c1 => ?_)
      · rw [if_pos c1] at h
        refine lv_iconst (v := 0) hx hb d_PM_weighAt_38 (by decide) ?_
        refine lv_istore_n (lv' := [(2, .int 0), (0, .ref (ad 0)), (1, .int x1)]) hx hb d_PM_weighAt_39 rfl hl (by decide) rfl (fun ls hl => ?_)
        have k40 : ∀ (n : Nat) (x1 : Int32) (x2 : Int32) (σ : Sg) (h : L_PM_weighAt_40 n x1 x2 σ = some out) (H : Heap) (locs : List Loc) (hW : WS G ad cI cZ s σ H locs) (ls : Array Slot) (hl : lv_has ls 3 [(0, .ref (ad 0)), (1, .int x1), (2, .int x2)]), W p l e (headSpec wl_PM_weighAt ({ frames := 3, cells := 0, slots := 0, locals := 70 } : Room)).room s m (([.ref (ad 0), .int a1] : List Value).toArray) below meth c H locs 0 0 (MQ below (QMv G ad cI cZ out) (([.ref (ad 0), .int a1] : List Value).toArray) s 0 0 (AX ad)) (F0 m 40 ls []) := by
          intro n
          induction n with
          | zero =>
            intro x1 x2 σ h
            exact absurd h (by intro z; cases z)
          | succ n ih =>
            intro x1 x2 σ h H locs hW ls hl
            replace h : B_PM_weighAt_40 (L_PM_weighAt_40 n) x1 x2 σ = some out := h
            unfold B_PM_weighAt_40 at h
            refine lv_iload_n hx hb d_PM_weighAt_40 rfl (lv_at hl 2 rfl) ?_
            refine lv_aload_n hx hb d_PM_weighAt_41 rfl (lv_at hl 0 rfl) ?_
            refine gf_PM_40 C hW.1 d_PM_weighAt_42 ?_
            refine gf_PM_164 C hW.1 d_PM_weighAt_45 ?_
            refine lv_icmp_ge (tgt := 102) hx hb d_PM_weighAt_48 (by decide) (fun c5 => ?_) (fun c5 => ?_)
            · rw [if_pos c5] at h
              exact W.vret hx hb hr (fun t ht _ => qm_v h ht hW) hW.2.2.2 d_PM_weighAt_102
            · rw [if_neg c5] at h
              refine lv_aload_n hx hb d_PM_weighAt_51 rfl (lv_at hl 0 rfl) ?_
              refine gf_PM_40 C hW.1 d_PM_weighAt_52 ?_
              refine lv_iload_n hx hb d_PM_weighAt_55 rfl (lv_at hl 2 rfl) ?_
              refine lv_iload_n hx hb d_PM_weighAt_56 rfl (lv_at hl 1 rfl) ?_
              obtain ⟨r6, g_r6, h⟩ := ob_some h
              refine cl_PM_234 (rest := []) C (hml.trans hl.1.symm) hW.1 g_r6 ⟨Nat.le_of_ble_eq_true rfl, Nat.le_of_ble_eq_true rfl⟩ (Nat.le_of_ble_eq_true rfl) d_PM_weighAt_57 ⟨Nat.zero_le _, Nat.zero_le _⟩ ?_
              refine lv_if_eq (tgt := 96) hx hb d_PM_weighAt_60 (by decide) (fun c7 => ?_) (fun c7 => ?_)
              · rw [if_pos c7] at h
                refine lv_iinc (v := x2 + 1) (lv' := [(2, .int (x2 + 1)), (0, .ref (ad 0)), (1, .int x1)]) hx hb d_PM_weighAt_96 hl (k := 2) rfl rfl (by decide) rfl (fun ls hl => ?_)
                refine lv_goto (tgt := 40) hx hb d_PM_weighAt_99 (by decide) ?_
                exact ih x1 (x2 + 1) σ h _ _ hW _ (lv_sub hl [1, 2, 0] rfl)
              · rw [if_neg c7] at h
                refine lv_aload_n hx hb d_PM_weighAt_63 rfl (lv_at hl 0 rfl) ?_
                refine gf_PM_55 C hW.1 d_PM_weighAt_64 ?_
                refine lv_aload_n hx hb d_PM_weighAt_67 rfl (lv_at hl 0 rfl) ?_
                refine gf_PM_40 C hW.1 d_PM_weighAt_68 ?_
                refine gf_PM_235 C hW.1 d_PM_weighAt_71 ?_
                refine lv_iload_n hx hb d_PM_weighAt_74 rfl (lv_at hl 2 rfl) ?_
                obtain ⟨hin, h⟩ := gd_some h
                refine al_25 C hW.1 hin d_PM_weighAt_75 ?_
                refine lv_dup2_11 hx hb d_PM_weighAt_76 rfl rfl ?_
                obtain ⟨hin, h⟩ := gd_some h
                refine al_8 C hW.1 hin d_PM_weighAt_77 ?_
                refine lv_aload_n hx hb d_PM_weighAt_78 rfl (lv_at hl 0 rfl) ?_
                refine gf_PM_10 C hW.1 d_PM_weighAt_79 ?_
                refine lv_aload_n hx hb d_PM_weighAt_82 rfl (lv_at hl 0 rfl) ?_
                refine gf_PM_40 C hW.1 d_PM_weighAt_83 ?_
                refine gf_PM_238 C hW.1 d_PM_weighAt_86 ?_
                refine lv_iload_n hx hb d_PM_weighAt_89 rfl (lv_at hl 2 rfl) ?_
                obtain ⟨hin, h⟩ := gd_some h
                refine al_26 C hW.1 hin d_PM_weighAt_90 ?_
                obtain ⟨r8, g_r8, h⟩ := ob_some h
                refine cl_PM_231 (rest := [.int (σ 8 (Int32.toNatClampNeg (σ 25 (Int32.toNatClampNeg x2)))), .int (σ 25 (Int32.toNatClampNeg x2)), .ref (ad 8)]) C (hml.trans hl.1.symm) hW.1 g_r8 ⟨Nat.le_of_ble_eq_true rfl, Nat.le_of_ble_eq_true rfl⟩ (Nat.le_of_ble_eq_true rfl) d_PM_weighAt_91 ⟨Nat.zero_le _, Nat.zero_le _⟩ ?_
                refine lv_ior hx hb d_PM_weighAt_94 ?_
                obtain ⟨hin, h⟩ := gd_some h
                refine as_8 C hD hW hin d_PM_weighAt_95 (fun H locs hW => ?_)
                obtain ⟨σ9, e_σ9, h⟩ := lt1_some h
                rw [← e_σ9] at hW
                refine lv_iinc (v := x2 + 1) (lv' := [(2, .int (x2 + 1)), (0, .ref (ad 0)), (1, .int x1)]) hx hb d_PM_weighAt_96 hl (k := 2) rfl rfl (by decide) rfl (fun ls hl => ?_)
                refine lv_goto (tgt := 40) hx hb d_PM_weighAt_99 (by decide) ?_
                exact ih x1 (x2 + 1) σ9 h _ _ hW _ (lv_sub hl [1, 2, 0] rfl)
        exact k40 _ x1 0 σ h _ _ hW _ (lv_sub hl [1, 2, 0] rfl)
      · rw [if_neg c1] at h
        refine lv_aload_n hx hb d_PM_weighAt_13 rfl (lv_at hl 0 rfl) ?_
        refine gf_PM_55 C hW.1 d_PM_weighAt_14 ?_
        refine lv_iload_n hx hb d_PM_weighAt_17 rfl (lv_at hl 2 rfl) ?_
        refine lv_aload_n hx hb d_PM_weighAt_18 rfl (lv_at hl 0 rfl) ?_
        refine gf_PM_10 C hW.1 d_PM_weighAt_19 ?_
        refine lv_aload_n hx hb d_PM_weighAt_22 rfl (lv_at hl 0 rfl) ?_
        refine lv_iload_n hx hb d_PM_weighAt_23 rfl (lv_at hl 2 rfl) ?_
        refine lv_iload_n hx hb d_PM_weighAt_24 rfl (lv_at hl 1 rfl) ?_
        obtain ⟨r2, g_r2, h⟩ := ob_some h
        refine cl_PM_105 (rest := [.ref (ad 1), .int x2, .ref (ad 8)]) C (hml.trans hl.1.symm) hW.1 g_r2 ⟨Nat.le_of_ble_eq_true rfl, Nat.le_of_ble_eq_true rfl⟩ (Nat.le_of_ble_eq_true rfl) d_PM_weighAt_25 ⟨Nat.zero_le _, Nat.zero_le _⟩ ?_
        obtain ⟨r3, g_r3, h⟩ := ob_some h
        refine cl_PM_231 (rest := [.int x2, .ref (ad 8)]) C (hml.trans hl.1.symm) hW.1 g_r3 ⟨Nat.le_of_ble_eq_true rfl, Nat.le_of_ble_eq_true rfl⟩ (Nat.le_of_ble_eq_true rfl) d_PM_weighAt_28 ⟨Nat.zero_le _, Nat.zero_le _⟩ ?_
        obtain ⟨hin, h⟩ := gd_some h
        refine as_8 C hD hW hin d_PM_weighAt_31 (fun H locs hW => ?_)
        obtain ⟨σ4, e_σ4, h⟩ := lt1_some h
        rw [← e_σ4] at hW
        refine lv_iinc (v := x2 + 1) (lv' := [(2, .int (x2 + 1)), (0, .ref (ad 0)), (1, .int x1)]) hx hb d_PM_weighAt_32 hl (k := 2) rfl rfl (by decide) rfl (fun ls hl => ?_)
        refine lv_goto (tgt := 2) hx hb d_PM_weighAt_35 (by decide) ?_
        exact ih x1 (x2 + 1) σ4 h _ _ hW _ (lv_sub hl [1, 2, 0] rfl)
  exact k2 _ a1 0 σ h _ _ hW _ (lv_sub hl [1, 2, 0] rfl)
section RC
variable {p : Program} {l : Launch} {e : Env} {R : Room} {s : State} {m : MethodId} {args : Array Value} {below : List Frame} {meth : Method} {c : Code} {H : Heap} {locs : List Loc} {cells slots : Nat} {Q : State → Prop}
variable {cc : ByteArray} {pc : Nat} {ls : Array Slot} {rest : List Value} {G : va_G} {ad : Nat → Nat} {cI cZ : ClassId} {σ : Sg} {own : String}
theorem cl_PM_174 (C : CX "PlaceMoves" cc p s m args c G cI cZ) (hD : DX ad) (hml : c.maxLocals = ls.size) (hW : WS G ad cI cZ s σ H locs) {x1 : Int32} {r : Sg} (hg : f_PM_weighAt σ x1 = some r) (hR : 3 + 1 ≤ R.frames ∧ 8 + (3 + 11) + 70 ≤ R.locals) (hrest : (rest.map fun v => v.category).sum ≤ 8) (hd : decode cc pc = .ok (.invokevirtual 174, 3)) (hcs : cells + 0 ≤ R.cells ∧ slots + 0 ≤ R.slots) (kk : ∀ (H1 : Heap) (locs1 : List Loc), WS G ad cI cZ s (r) H1 locs1 → W p l e R s m args below meth c H1 locs1 cells slots Q (F0 m (pc + 3) ls rest)) : W p l e R s m args below meth c H locs cells slots Q (F0 m pc ls (.int x1 :: .ref (ad 0) :: rest)) :=
  va_callv (va_runV (As := [.int x1]) (rest := rest) ⟨C.1, C.2.1, hml, C.2.2.1, C.2.2.2.1⟩ (c_PM_weighAt l G ad cI cZ hD σ x1 r hg) (cwV 1 C.2.2.2.1 (wg_V w_434 w_436 ws_10 w_1 w_437) rfl rfl rfl (by decide +kernel) hR) ⟨PcX.blind, va_recv C.2.2.2.2.1 hW.1 (ci := 0) (q0 := 0) rfl rfl, fun U hU hZ => ⟨rfl, by rw [hU]; exact hW.1, C.2.2.2.2.warm hZ⟩⟩ rfl rfl rfl rfl (lv_room hrest) hd hcs) hW.2 (fun _ _ z => z) (fun _ z => z) (fun u t H1 locs1 ht _ _ hB _ _ hS => kk H1 locs1 ⟨by rw [← ht]; exact hB, hS⟩)
end RC
abbrev wl_PM_loadsHoldAt : List Cond := .code ⟨"PlaceMoves", "loadsHoldAt", "(II)Z"⟩ prog_1_method_33_code 4 (some FieldType.boolean) :: WG
set_option maxHeartbeats 4000000 in
set_option maxRecDepth 100000 in
theorem c_PM_loadsHoldAt (l : Launch) (G : va_G) (ad : Nat → Nat) (cI cZ : ClassId) (hD : DX ad) (σ : Sg) (a1 : Int32) (a2 : Int32) (out : Int32 × Sg) (h : f_PM_loadsHoldAt σ a1 a2 = some out) : Met l ⟨"PlaceMoves", "loadsHoldAt", "(II)Z"⟩ wl_PM_loadsHoldAt ({ frames := 4, cells := 0, slots := 0, locals := 92 } : Room) (PcX G ad cI cZ σ [.ref (ad 0), .int a1, .int a2]) (QMi G ad cI cZ out) 0 0 (AX ad) := by
  refine Met.ofW (cc := prog_1_method_33_code) (maxL := 4) (ret := (some FieldType.boolean)) (by decide) rfl ?_
  intro p e s m args below meth c s₁ B hml hv
  obtain ⟨rfl, hP, hK⟩ := hv
  have hx := B.exec
  have hb := B.bytes
  have hr := B.returns
  have hts0 := atoms_spec (ws := wl_PM_loadsHoldAt) B.pre
  have hts : ∀ w ∈ WG, w.before _ s = true := fun w hw => hts0 w (List.mem_cons_of_mem _ hw)
  have hown : s.vm.findClass "PlaceMoves" = some m.cls := findClass_of_methodNamed B.named
  have hlocks := B.notSynchronized
  have C : CX "PlaceMoves" prog_1_method_33_code p s m _ c G cI cZ := ⟨hx, hb, hown, hts, hK⟩
  have hl := lv_entry ([.ref (ad 0), .int a1, .int a2]) (n := 4) (Nat.le_of_ble_eq_true rfl)
  rw [lg_entry_eq]
  generalize (lg_sl ([.ref (ad 0), .int a1, .int a2]) ++ List.replicate (4 - (lg_sl ([.ref (ad 0), .int a1, .int a2])).length) Slot.unset).toArray = ls at hl ⊢
  have hl : lv_has ls 4 [(0, .ref (ad 0)), (1, .int a1), (2, .int a2)] := hl
  unfold f_PM_loadsHoldAt at h
  have hW : WS G ad cI cZ s σ s.heap [] := ⟨hP, va_S.rf⟩
  refine lv_aload_n hx hb d_PM_loadsHoldAt_0 rfl (lv_at hl 0 rfl) ?_
  refine lv_iload_n hx hb d_PM_loadsHoldAt_1 rfl (lv_at hl 2 rfl) ?_
  obtain ⟨r1, g_r1, h⟩ := ob_some h
  refine cl_PM_174 (rest := []) C hD (hml.trans hl.1.symm) hW g_r1 ⟨Nat.le_of_ble_eq_true rfl, Nat.le_of_ble_eq_true rfl⟩ (Nat.le_of_ble_eq_true rfl) d_PM_loadsHoldAt_2 ⟨Nat.zero_le _, Nat.zero_le _⟩ (fun H locs hW => ?_)
  refine lv_iconst (v := 0) hx hb d_PM_loadsHoldAt_5 (by decide) ?_
  refine lv_istore_n (lv' := [(3, .int 0), (0, .ref (ad 0)), (1, .int a1), (2, .int a2)]) hx hb d_PM_loadsHoldAt_6 rfl hl (by decide) rfl (fun ls hl => ?_)
  have k7 : ∀ (n : Nat) (x1 : Int32) (x3 : Int32) (σ : Sg) (h : L_PM_loadsHoldAt_7 n x1 x3 σ = some out) (H : Heap) (locs : List Loc) (hW : WS G ad cI cZ s σ H locs) (ls : Array Slot) (hl : lv_has ls 4 [(0, .ref (ad 0)), (1, .int x1), (3, .int x3)]), W p l e (headSpec wl_PM_loadsHoldAt ({ frames := 4, cells := 0, slots := 0, locals := 92 } : Room)).room s m (([.ref (ad 0), .int a1, .int a2] : List Value).toArray) below meth c H locs 0 0 (MQ below (QMi G ad cI cZ out) (([.ref (ad 0), .int a1, .int a2] : List Value).toArray) s 0 0 (AX ad)) (F0 m 7 ls []) := by
    intro n
    induction n with
    | zero =>
      intro x1 x3 σ h
      exact absurd h (by intro z; cases z)
    | succ n ih =>
      intro x1 x3 σ h H locs hW ls hl
      replace h : B_PM_loadsHoldAt_7 (L_PM_loadsHoldAt_7 n) x1 x3 σ = some out := h
      unfold B_PM_loadsHoldAt_7 at h
      refine lv_iload_n hx hb d_PM_loadsHoldAt_7 rfl (lv_at hl 2 rfl) ?_
      refine lv_aload_n hx hb d_PM_loadsHoldAt_8 rfl (lv_at hl 0 rfl) ?_
      refine gf_PM_10 C hW.1 d_PM_loadsHoldAt_9 ?_
      refine gf_PM_72 C hW.1 d_PM_loadsHoldAt_12 ?_
      refine lv_icmp_ge (tgt := 55) hx hb d_PM_loadsHoldAt_15 (by decide) (fun c2 => ?_) (fun c2 => ?_)
      · rw [if_pos c2] at h
        refine lv_iconst (v := 1) hx hb d_PM_loadsHoldAt_55 (by decide) ?_
        exact W.zret hx hb hr rfl (fun t ht _ => qm_i h ht hW) hW.2.2.2 d_PM_loadsHoldAt_56
      · rw [if_neg c2] at h
        refine lv_aload_n hx hb d_PM_loadsHoldAt_18 rfl (lv_at hl 0 rfl) ?_
        refine gf_PM_10 C hW.1 d_PM_loadsHoldAt_19 ?_
        refine lv_iload_n hx hb d_PM_loadsHoldAt_22 rfl (lv_at hl 1 rfl) ?_
        refine lv_iload_n hx hb d_PM_loadsHoldAt_23 rfl (lv_at hl 2 rfl) ?_
        obtain ⟨r3, g_r3, h⟩ := ob_some h
        refine cl_PM_216 (rest := []) C (hml.trans hl.1.symm) hW.1 g_r3 ⟨Nat.le_of_ble_eq_true rfl, Nat.le_of_ble_eq_true rfl⟩ (Nat.le_of_ble_eq_true rfl) d_PM_loadsHoldAt_24 ⟨Nat.zero_le _, Nat.zero_le _⟩ ?_
        refine lv_if_eq (tgt := 49) hx hb d_PM_loadsHoldAt_27 (by decide) (fun c4 => ?_) (fun c4 => ?_)
        · rw [if_pos c4] at h
          refine lv_iinc (v := x3 + 1) (lv' := [(3, .int (x3 + 1)), (0, .ref (ad 0)), (1, .int x1)]) hx hb d_PM_loadsHoldAt_49 hl (k := 2) rfl rfl (by decide) rfl (fun ls hl => ?_)
          refine lv_goto (tgt := 7) hx hb d_PM_loadsHoldAt_52 (by decide) ?_
          exact ih x1 (x3 + 1) σ h _ _ hW _ (lv_sub hl [1, 2, 0] rfl)
        · rw [if_neg c4] at h
          refine lv_aload_n hx hb d_PM_loadsHoldAt_30 rfl (lv_at hl 0 rfl) ?_
          refine lv_iload_n hx hb d_PM_loadsHoldAt_31 rfl (lv_at hl 2 rfl) ?_
          obtain ⟨r5, g_r5, h⟩ := ob_some h
          refine cl_PM_177 (rest := []) C (hml.trans hl.1.symm) hW.1 g_r5 ⟨Nat.le_of_ble_eq_true rfl, Nat.le_of_ble_eq_true rfl⟩ (Nat.le_of_ble_eq_true rfl) d_PM_loadsHoldAt_32 ⟨Nat.zero_le _, Nat.zero_le _⟩ ?_
          refine lv_aload_n hx hb d_PM_loadsHoldAt_35 rfl (lv_at hl 0 rfl) ?_
          refine gf_PM_10 C hW.1 d_PM_loadsHoldAt_36 ?_
          refine gf_PM_228 C hW.1 d_PM_loadsHoldAt_39 ?_
          refine lv_iload_n hx hb d_PM_loadsHoldAt_42 rfl (lv_at hl 2 rfl) ?_
          obtain ⟨hin, h⟩ := gd_some h
          refine al_9 C hW.1 hin d_PM_loadsHoldAt_43 ?_
          refine lv_icmp_le (tgt := 49) hx hb d_PM_loadsHoldAt_44 (by decide) (fun c6 => ?_) (fun c6 => ?_)
          · rw [if_pos c6] at h
            refine lv_iinc (v := x3 + 1) (lv' := [(3, .int (x3 + 1)), (0, .ref (ad 0)), (1, .int x1)]) hx hb d_PM_loadsHoldAt_49 hl (k := 2) rfl rfl (by decide) rfl (fun ls hl => ?_)
            refine lv_goto (tgt := 7) hx hb d_PM_loadsHoldAt_52 (by decide) ?_
            exact ih x1 (x3 + 1) σ h _ _ hW _ (lv_sub hl [1, 2, 0] rfl)
          · rw [if_neg c6] at h
            refine lv_iconst (v := 0) hx hb d_PM_loadsHoldAt_47 (by decide) ?_
            exact W.zret hx hb hr rfl (fun t ht _ => qm_i h ht hW) hW.2.2.2 d_PM_loadsHoldAt_48
  exact k7 _ a1 0 r1 h _ _ hW _ (lv_sub hl [1, 2, 0] rfl)
section RC
variable {p : Program} {l : Launch} {e : Env} {R : Room} {s : State} {m : MethodId} {args : Array Value} {below : List Frame} {meth : Method} {c : Code} {H : Heap} {locs : List Loc} {cells slots : Nat} {Q : State → Prop}
variable {cc : ByteArray} {pc : Nat} {ls : Array Slot} {rest : List Value} {G : va_G} {ad : Nat → Nat} {cI cZ : ClassId} {σ : Sg} {own : String}
theorem cl_PM_222 (C : CX "PlaceMoves" cc p s m args c G cI cZ) (hD : DX ad) (hml : c.maxLocals = ls.size) (hW : WS G ad cI cZ s σ H locs) {x1 : Int32} {x2 : Int32} {r : Int32 × Sg} (hg : f_PM_loadsHoldAt σ x1 x2 = some r) (hR : 4 + 1 ≤ R.frames ∧ 8 + (4 + 11) + 92 ≤ R.locals) (hrest : (rest.map fun v => v.category).sum ≤ 8) (hd : decode cc pc = .ok (.invokevirtual 222, 3)) (hcs : cells + 0 ≤ R.cells ∧ slots + 0 ≤ R.slots) (kk : ∀ (H1 : Heap) (locs1 : List Loc), WS G ad cI cZ s (r.2) H1 locs1 → W p l e R s m args below meth c H1 locs1 cells slots Q (F0 m (pc + 3) ls (.int r.1 :: rest))) : W p l e R s m args below meth c H locs cells slots Q (F0 m pc ls (.int x2 :: .int x1 :: .ref (ad 0) :: rest)) :=
  va_calli (va_runV (As := [.int x1, .int x2]) (rest := rest) ⟨C.1, C.2.1, hml, C.2.2.1, C.2.2.2.1⟩ (c_PM_loadsHoldAt l G ad cI cZ hD σ x1 x2 r hg) (cwV 2 C.2.2.2.1 (wg_V w_430 w_432 ws_9 w_1 w_433) rfl rfl rfl (by decide +kernel) hR) ⟨PcX.blind, va_recv C.2.2.2.2.1 hW.1 (ci := 0) (q0 := 0) rfl rfl, fun U hU hZ => ⟨rfl, by rw [hU]; exact hW.1, C.2.2.2.2.warm hZ⟩⟩ rfl rfl rfl rfl (lv_room hrest) hd hcs) hW.2 (fun _ _ z => z) (fun _ z => z) (fun r' u t H1 locs1 ht _ hp hB _ _ hS => by subst hp; exact kk H1 locs1 ⟨by rw [← ht]; exact hB, hS⟩)
end RC
abbrev wl_PM_loadsHold : List Cond := .code ⟨"PlaceMoves", "loadsHold", "(III)Z"⟩ prog_1_method_32_code 6 (some FieldType.boolean) :: WG
set_option maxHeartbeats 4000000 in
set_option maxRecDepth 100000 in
theorem c_PM_loadsHold (l : Launch) (G : va_G) (ad : Nat → Nat) (cI cZ : ClassId) (hD : DX ad) (σ : Sg) (a1 : Int32) (a2 : Int32) (a3 : Int32) (out : Int32 × Sg) (h : f_PM_loadsHold σ a1 a2 a3 = some out) : Met l ⟨"PlaceMoves", "loadsHold", "(III)Z"⟩ wl_PM_loadsHold ({ frames := 5, cells := 0, slots := 0, locals := 115 } : Room) (PcX G ad cI cZ σ [.ref (ad 0), .int a1, .int a2, .int a3]) (QMi G ad cI cZ out) 0 0 (AX ad) := by
  refine Met.ofW (cc := prog_1_method_32_code) (maxL := 6) (ret := (some FieldType.boolean)) (by decide) rfl ?_
  intro p e s m args below meth c s₁ B hml hv
  obtain ⟨rfl, hP, hK⟩ := hv
  have hx := B.exec
  have hb := B.bytes
  have hr := B.returns
  have hts0 := atoms_spec (ws := wl_PM_loadsHold) B.pre
  have hts : ∀ w ∈ WG, w.before _ s = true := fun w hw => hts0 w (List.mem_cons_of_mem _ hw)
  have hown : s.vm.findClass "PlaceMoves" = some m.cls := findClass_of_methodNamed B.named
  have hlocks := B.notSynchronized
  have C : CX "PlaceMoves" prog_1_method_32_code p s m _ c G cI cZ := ⟨hx, hb, hown, hts, hK⟩
  have hl := lv_entry ([.ref (ad 0), .int a1, .int a2, .int a3]) (n := 6) (Nat.le_of_ble_eq_true rfl)
  rw [lg_entry_eq]
  generalize (lg_sl ([.ref (ad 0), .int a1, .int a2, .int a3]) ++ List.replicate (6 - (lg_sl ([.ref (ad 0), .int a1, .int a2, .int a3])).length) Slot.unset).toArray = ls at hl ⊢
  have hl : lv_has ls 6 [(0, .ref (ad 0)), (1, .int a1), (2, .int a2), (3, .int a3)] := hl
  unfold f_PM_loadsHold at h
  have hW : WS G ad cI cZ s σ s.heap [] := ⟨hP, va_S.rf⟩
  refine lv_aload_n hx hb d_PM_loadsHold_0 rfl (lv_at hl 0 rfl) ?_
  refine lv_iload_n hx hb d_PM_loadsHold_1 rfl (lv_at hl 1 rfl) ?_
  refine lv_iload_n hx hb d_PM_loadsHold_2 rfl (lv_at hl 2 rfl) ?_
  obtain ⟨r1, g_r1, h⟩ := ob_some h
  refine cl_PM_222 (rest := []) C hD (hml.trans hl.1.symm) hW g_r1 ⟨Nat.le_of_ble_eq_true rfl, Nat.le_of_ble_eq_true rfl⟩ (Nat.le_of_ble_eq_true rfl) d_PM_loadsHold_3 ⟨Nat.zero_le _, Nat.zero_le _⟩ (fun H locs hW => ?_)
  refine lv_if_ne (tgt := 11) hx hb d_PM_loadsHold_6 (by decide) (fun c2 => ?_) (fun c2 => ?_)
  · rw [if_neg c2] at h
    refine lv_iconst (v := 0) hx hb d_PM_loadsHold_11 (by decide) ?_
    refine lv_istore (lv' := [(4, .int 0), (0, .ref (ad 0)), (1, .int a1), (2, .int a2), (3, .int a3)]) hx hb d_PM_loadsHold_12 hl (by decide) rfl (fun ls hl => ?_)
    have k14 : ∀ (n : Nat) (x1 : Int32) (x2 : Int32) (x3 : Int32) (x4 : Int32) (σ : Sg) (h : L_PM_loadsHold_14 n x1 x2 x3 x4 σ = some out) (H : Heap) (locs : List Loc) (hW : WS G ad cI cZ s σ H locs) (ls : Array Slot) (hl : lv_has ls 6 [(0, .ref (ad 0)), (1, .int x1), (2, .int x2), (3, .int x3), (4, .int x4)]), W p l e (headSpec wl_PM_loadsHold ({ frames := 5, cells := 0, slots := 0, locals := 115 } : Room)).room s m (([.ref (ad 0), .int a1, .int a2, .int a3] : List Value).toArray) below meth c H locs 0 0 (MQ below (QMi G ad cI cZ out) (([.ref (ad 0), .int a1, .int a2, .int a3] : List Value).toArray) s 0 0 (AX ad)) (F0 m 14 ls []) := by
      intro n
      induction n with
      | zero =>
        intro x1 x2 x3 x4 σ h
        exact absurd h (by intro z; cases z)
      | succ n ih =>
        intro x1 x2 x3 x4 σ h H locs hW ls hl
        replace h : B_PM_loadsHold_14 (L_PM_loadsHold_14 n) x1 x2 x3 x4 σ = some out := h
        unfold B_PM_loadsHold_14 at h
        refine lv_iload hx hb d_PM_loadsHold_14 (lv_at hl 4 rfl) ?_
        refine lv_aload_n hx hb d_PM_loadsHold_16 rfl (lv_at hl 0 rfl) ?_
        refine gf_PM_40 C hW.1 d_PM_loadsHold_17 ?_
        refine gf_PM_164 C hW.1 d_PM_loadsHold_20 ?_
        refine lv_icmp_ge (tgt := 68) hx hb d_PM_loadsHold_23 (by decide) (fun c3 => ?_) (fun c3 => ?_)
        · rw [if_pos c3] at h
          refine lv_iconst (v := 1) hx hb d_PM_loadsHold_68 (by decide) ?_
          exact W.zret hx hb hr rfl (fun t ht _ => qm_i h ht hW) hW.2.2.2 d_PM_loadsHold_69
        · rw [if_neg c3] at h
          refine lv_aload_n hx hb d_PM_loadsHold_26 rfl (lv_at hl 0 rfl) ?_
          refine gf_PM_40 C hW.1 d_PM_loadsHold_27 ?_
          refine gf_PM_225 C hW.1 d_PM_loadsHold_30 ?_
          refine lv_iload hx hb d_PM_loadsHold_33 (lv_at hl 4 rfl) ?_
          obtain ⟨hin, h⟩ := gd_some h
          refine al_27 C hW.1 hin d_PM_loadsHold_35 ?_
          obtain ⟨y4, e_y4, h⟩ := lt1_some h
          refine W.eq (g2 := F0 m 36 ls (.int y4 :: [])) (by rw [e_y4]) ?_
          refine lv_istore (lv' := [(5, .int y4), (0, .ref (ad 0)), (1, .int x1), (2, .int x2), (3, .int x3), (4, .int x4)]) hx hb d_PM_loadsHold_36 hl (by decide) rfl (fun ls hl => ?_)
          refine lv_iload hx hb d_PM_loadsHold_38 (lv_at hl 0 rfl) ?_
          refine lv_iload_n hx hb d_PM_loadsHold_40 rfl (lv_at hl 3 rfl) ?_
          refine lv_icmp_le (tgt := 62) hx hb d_PM_loadsHold_41 (by decide) (fun c5 => ?_) (fun c5 => ?_)
          · rw [if_pos c5] at h
            refine lv_iinc (v := x4 + 1) (lv' := [(4, .int (x4 + 1)), (5, .int y4), (0, .ref (ad 0)), (1, .int x1), (2, .int x2), (3, .int x3)]) hx hb d_PM_loadsHold_62 hl (k := 5) rfl rfl (by decide) rfl (fun ls hl => ?_)
            refine lv_goto (tgt := 14) hx hb d_PM_loadsHold_65 (by decide) ?_
            exact ih x1 x2 x3 (x4 + 1) σ h _ _ hW _ (lv_sub hl [2, 3, 4, 5, 0] rfl)
          · rw [if_neg c5] at h
            refine lv_iload hx hb d_PM_loadsHold_44 (lv_at hl 0 rfl) ?_
            refine lv_iload_n hx hb d_PM_loadsHold_46 rfl (lv_at hl 4 rfl) ?_
            refine lv_icmp_gt (tgt := 62) hx hb d_PM_loadsHold_47 (by decide) (fun c6 => ?_) (fun c6 => ?_)
            · rw [if_pos c6] at h
              refine lv_iinc (v := x4 + 1) (lv' := [(4, .int (x4 + 1)), (5, .int y4), (0, .ref (ad 0)), (1, .int x1), (2, .int x2), (3, .int x3)]) hx hb d_PM_loadsHold_62 hl (k := 5) rfl rfl (by decide) rfl (fun ls hl => ?_)
              refine lv_goto (tgt := 14) hx hb d_PM_loadsHold_65 (by decide) ?_
              exact ih x1 x2 x3 (x4 + 1) σ h _ _ hW _ (lv_sub hl [2, 3, 4, 5, 0] rfl)
            · rw [if_neg c6] at h
              refine lv_aload_n hx hb d_PM_loadsHold_50 rfl (lv_at hl 1 rfl) ?_
              refine lv_iload_n hx hb d_PM_loadsHold_51 rfl (lv_at hl 2 rfl) ?_
              refine lv_iload hx hb d_PM_loadsHold_52 (lv_at hl 0 rfl) ?_
              obtain ⟨r7, g_r7, h⟩ := ob_some h
              refine cl_PM_222 (rest := []) C hD (hml.trans hl.1.symm) hW g_r7 ⟨Nat.le_of_ble_eq_true rfl, Nat.le_of_ble_eq_true rfl⟩ (Nat.le_of_ble_eq_true rfl) d_PM_loadsHold_54 ⟨Nat.zero_le _, Nat.zero_le _⟩ (fun H locs hW => ?_)
              refine lv_if_ne (tgt := 62) hx hb d_PM_loadsHold_57 (by decide) (fun c8 => ?_) (fun c8 => ?_)
              · rw [if_neg c8] at h
                refine lv_iinc (v := x4 + 1) (lv' := [(4, .int (x4 + 1)), (5, .int y4), (0, .ref (ad 0)), (1, .int x1), (2, .int x2), (3, .int x3)]) hx hb d_PM_loadsHold_62 hl (k := 5) rfl rfl (by decide) rfl (fun ls hl => ?_)
                refine lv_goto (tgt := 14) hx hb d_PM_loadsHold_65 (by decide) ?_
                exact ih x1 x2 x3 (x4 + 1) r7.2 h _ _ hW _ (lv_sub hl [2, 3, 4, 5, 0] rfl)
              · rw [if_pos c8] at h
                refine lv_iconst (v := 0) hx hb d_PM_loadsHold_60 (by decide) ?_
                exact W.zret hx hb hr rfl (fun t ht _ => qm_i h ht hW) hW.2.2.2 d_PM_loadsHold_61
    exact k14 _ a1 a2 a3 0 r1.2 h _ _ hW _ (lv_sub hl [1, 2, 3, 4, 0] rfl)
  · rw [if_pos c2] at h
    refine lv_iconst (v := 0) hx hb d_PM_loadsHold_9 (by decide) ?_
    exact W.zret hx hb hr rfl (fun t ht _ => qm_i h ht hW) hW.2.2.2 d_PM_loadsHold_10
section RC
variable {p : Program} {l : Launch} {e : Env} {R : Room} {s : State} {m : MethodId} {args : Array Value} {below : List Frame} {meth : Method} {c : Code} {H : Heap} {locs : List Loc} {cells slots : Nat} {Q : State → Prop}
variable {cc : ByteArray} {pc : Nat} {ls : Array Slot} {rest : List Value} {G : va_G} {ad : Nat → Nat} {cI cZ : ClassId} {σ : Sg} {own : String}
theorem cl_PM_168 (C : CX "PlaceMoves" cc p s m args c G cI cZ) (hD : DX ad) (hml : c.maxLocals = ls.size) (hW : WS G ad cI cZ s σ H locs) {x1 : Int32} {x2 : Int32} {x3 : Int32} {r : Int32 × Sg} (hg : f_PM_loadsHold σ x1 x2 x3 = some r) (hR : 5 + 1 ≤ R.frames ∧ 8 + (6 + 11) + 115 ≤ R.locals) (hrest : (rest.map fun v => v.category).sum ≤ 8) (hd : decode cc pc = .ok (.invokevirtual 168, 3)) (hcs : cells + 0 ≤ R.cells ∧ slots + 0 ≤ R.slots) (kk : ∀ (H1 : Heap) (locs1 : List Loc), WS G ad cI cZ s (r.2) H1 locs1 → W p l e R s m args below meth c H1 locs1 cells slots Q (F0 m (pc + 3) ls (.int r.1 :: rest))) : W p l e R s m args below meth c H locs cells slots Q (F0 m pc ls (.int x3 :: .int x2 :: .int x1 :: .ref (ad 0) :: rest)) :=
  va_calli (va_runV (As := [.int x1, .int x2, .int x3]) (rest := rest) ⟨C.1, C.2.1, hml, C.2.2.1, C.2.2.2.1⟩ (c_PM_loadsHold l G ad cI cZ hD σ x1 x2 x3 r hg) (cwV 3 C.2.2.2.1 (wg_V w_426 w_428 ws_8 w_1 w_429) rfl rfl rfl (by decide +kernel) hR) ⟨PcX.blind, va_recv C.2.2.2.2.1 hW.1 (ci := 0) (q0 := 0) rfl rfl, fun U hU hZ => ⟨rfl, by rw [hU]; exact hW.1, C.2.2.2.2.warm hZ⟩⟩ rfl rfl rfl rfl (lv_room hrest) hd hcs) hW.2 (fun _ _ z => z) (fun _ z => z) (fun r' u t H1 locs1 ht _ hp hB _ _ hS => by subst hp; exact kk H1 locs1 ⟨by rw [← ht]; exact hB, hS⟩)
end RC
end
section
abbrev wl_Rows_dropNewest : List Cond := .code ⟨"PlaceMoves$Rows", "dropNewest", "(I)V"⟩ prog_6_method_4_code 2 none :: WG
set_option maxHeartbeats 4000000 in
set_option maxRecDepth 100000 in
theorem c_Rows_dropNewest (l : Launch) (G : va_G) (ad : Nat → Nat) (cI cZ : ClassId) (hD : DX ad) (σ : Sg) (a1 : Int32) (out : Sg) (h : f_Rows_dropNewest σ a1 = some out) : Met l ⟨"PlaceMoves$Rows", "dropNewest", "(I)V"⟩ wl_Rows_dropNewest ({ frames := 0, cells := 0, slots := 0, locals := 0 } : Room) (PcX G ad cI cZ σ [.ref (ad 3), .int a1]) (QMv G ad cI cZ out) 0 0 (AX ad) := by
  refine Met.ofW (cc := prog_6_method_4_code) (maxL := 2) (ret := none) (by decide) rfl ?_
  intro p e s m args below meth c s₁ B hml hv
  obtain ⟨rfl, hP, hK⟩ := hv
  have hx := B.exec
  have hb := B.bytes
  have hr := B.returns
  have hts0 := atoms_spec (ws := wl_Rows_dropNewest) B.pre
  have hts : ∀ w ∈ WG, w.before _ s = true := fun w hw => hts0 w (List.mem_cons_of_mem _ hw)
  have hown : s.vm.findClass "PlaceMoves$Rows" = some m.cls := findClass_of_methodNamed B.named
  have hlocks := B.notSynchronized
  have C : CX "PlaceMoves$Rows" prog_6_method_4_code p s m _ c G cI cZ := ⟨hx, hb, hown, hts, hK⟩
  have hl := lv_entry ([.ref (ad 3), .int a1]) (n := 2) (Nat.le_of_ble_eq_true rfl)
  rw [lg_entry_eq]
  generalize (lg_sl ([.ref (ad 3), .int a1]) ++ List.replicate (2 - (lg_sl ([.ref (ad 3), .int a1])).length) Slot.unset).toArray = ls at hl ⊢
  have hl : lv_has ls 2 [(0, .ref (ad 3)), (1, .int a1)] := hl
  unfold f_Rows_dropNewest at h
  have hW : WS G ad cI cZ s σ s.heap [] := ⟨hP, va_S.rf⟩
  refine lv_aload_n hx hb d_Rows_dropNewest_0 rfl (lv_at hl 0 rfl) ?_
  refine gf_Rows_9 C hW.1 d_Rows_dropNewest_1 ?_
  refine lv_iload_n hx hb d_Rows_dropNewest_4 rfl (lv_at hl 1 rfl) ?_
  refine lv_dup2_11 hx hb d_Rows_dropNewest_5 rfl rfl ?_
  obtain ⟨hin, h⟩ := gd_some h
  refine al_17 C hW.1 hin d_Rows_dropNewest_6 ?_
  refine lv_iconst (v := 1) hx hb d_Rows_dropNewest_7 (by decide) ?_
  refine lv_isub hx hb d_Rows_dropNewest_8 ?_
  obtain ⟨hin, h⟩ := gd_some h
  refine as_17 C hD hW hin d_Rows_dropNewest_9 (fun H locs hW => ?_)
  obtain ⟨σ1, e_σ1, h⟩ := lt1_some h
  rw [← e_σ1] at hW
  refine lv_aload_n hx hb d_Rows_dropNewest_10 rfl (lv_at hl 0 rfl) ?_
  refine lv_dup hx hb d_Rows_dropNewest_11 rfl ?_
  refine gf_Rows_24 C hW.1 d_Rows_dropNewest_12 ?_
  refine lv_iconst (v := 1) hx hb d_Rows_dropNewest_15 (by decide) ?_
  refine lv_isub hx hb d_Rows_dropNewest_16 ?_
  refine pf_Rows_24 C hD hW d_Rows_dropNewest_17 (fun H locs hW => ?_)
  obtain ⟨σ2, e_σ2, h⟩ := lt1_some h
  rw [← e_σ2] at hW
  exact W.vret hx hb hr (fun t ht _ => qm_v h ht hW) hW.2.2.2 d_Rows_dropNewest_20
section RC
variable {p : Program} {l : Launch} {e : Env} {R : Room} {s : State} {m : MethodId} {args : Array Value} {below : List Frame} {meth : Method} {c : Code} {H : Heap} {locs : List Loc} {cells slots : Nat} {Q : State → Prop}
variable {cc : ByteArray} {pc : Nat} {ls : Array Slot} {rest : List Value} {G : va_G} {ad : Nat → Nat} {cI cZ : ClassId} {σ : Sg} {own : String}
theorem cl_PM_220 (C : CX "PlaceMoves" cc p s m args c G cI cZ) (hD : DX ad) (hml : c.maxLocals = ls.size) (hW : WS G ad cI cZ s σ H locs) {x1 : Int32} {r : Sg} (hg : f_Rows_dropNewest σ x1 = some r) (hR : 0 + 1 ≤ R.frames ∧ 8 + (2 + 11) + 0 ≤ R.locals) (hrest : (rest.map fun v => v.category).sum ≤ 8) (hd : decode cc pc = .ok (.invokevirtual 220, 3)) (hcs : cells + 0 ≤ R.cells ∧ slots + 0 ≤ R.slots) (kk : ∀ (H1 : Heap) (locs1 : List Loc), WS G ad cI cZ s (r) H1 locs1 → W p l e R s m args below meth c H1 locs1 cells slots Q (F0 m (pc + 3) ls rest)) : W p l e R s m args below meth c H locs cells slots Q (F0 m pc ls (.int x1 :: .ref (ad 3) :: rest)) :=
  va_callv (va_runV (As := [.int x1]) (rest := rest) ⟨C.1, C.2.1, hml, C.2.2.1, C.2.2.2.1⟩ (c_Rows_dropNewest l G ad cI cZ hD σ x1 r hg) (cwV 1 C.2.2.2.1 (wg_V w_447 w_448 w_449 w_4 w_450) rfl rfl rfl (by decide +kernel) hR) ⟨PcX.blind, va_recv C.2.2.2.2.1 hW.1 (ci := 3) (q0 := 3) rfl rfl, fun U hU hZ => ⟨rfl, by rw [hU]; exact hW.1, C.2.2.2.2.warm hZ⟩⟩ rfl rfl rfl rfl (lv_room hrest) hd hcs) hW.2 (fun _ _ z => z) (fun _ z => z) (fun u t H1 locs1 ht _ _ hB _ _ hS => kk H1 locs1 ⟨by rw [← ht]; exact hB, hS⟩)
end RC
abbrev wl_PM_comesByRow : List Cond := .code ⟨"PlaceMoves", "comesByRow", "(IIII)Z"⟩ prog_1_method_31_code 6 (some FieldType.boolean) :: WG
set_option maxHeartbeats 4000000 in
set_option maxRecDepth 100000 in
theorem c_PM_comesByRow (l : Launch) (G : va_G) (ad : Nat → Nat) (cI cZ : ClassId) (hD : DX ad) (σ : Sg) (a1 : Int32) (a2 : Int32) (a3 : Int32) (a4 : Int32) (out : Int32 × Sg) (h : f_PM_comesByRow σ a1 a2 a3 a4 = some out) : Met l ⟨"PlaceMoves", "comesByRow", "(IIII)Z"⟩ wl_PM_comesByRow ({ frames := 6, cells := 0, slots := 0, locals := 140 } : Room) (PcX G ad cI cZ σ [.ref (ad 0), .int a1, .int a2, .int a3, .int a4]) (QMi G ad cI cZ out) 0 0 (AX ad) := by
  refine Met.ofW (cc := prog_1_method_31_code) (maxL := 6) (ret := (some FieldType.boolean)) (by decide) rfl ?_
  intro p e s m args below meth c s₁ B hml hv
  obtain ⟨rfl, hP, hK⟩ := hv
  have hx := B.exec
  have hb := B.bytes
  have hr := B.returns
  have hts0 := atoms_spec (ws := wl_PM_comesByRow) B.pre
  have hts : ∀ w ∈ WG, w.before _ s = true := fun w hw => hts0 w (List.mem_cons_of_mem _ hw)
  have hown : s.vm.findClass "PlaceMoves" = some m.cls := findClass_of_methodNamed B.named
  have hlocks := B.notSynchronized
  have C : CX "PlaceMoves" prog_1_method_31_code p s m _ c G cI cZ := ⟨hx, hb, hown, hts, hK⟩
  have hl := lv_entry ([.ref (ad 0), .int a1, .int a2, .int a3, .int a4]) (n := 6) (Nat.le_of_ble_eq_true rfl)
  rw [lg_entry_eq]
  generalize (lg_sl ([.ref (ad 0), .int a1, .int a2, .int a3, .int a4]) ++ List.replicate (6 - (lg_sl ([.ref (ad 0), .int a1, .int a2, .int a3, .int a4])).length) Slot.unset).toArray = ls at hl ⊢
  have hl : lv_has ls 6 [(0, .ref (ad 0)), (1, .int a1), (2, .int a2), (3, .int a3), (4, .int a4)] := hl
  unfold f_PM_comesByRow at h
  have hW : WS G ad cI cZ s σ s.heap [] := ⟨hP, va_S.rf⟩
  refine lv_aload_n hx hb d_PM_comesByRow_0 rfl (lv_at hl 0 rfl) ?_
  refine gf_PM_26 C hW.1 d_PM_comesByRow_1 ?_
  refine lv_iload_n hx hb d_PM_comesByRow_4 rfl (lv_at hl 1 rfl) ?_
  refine lv_iload_n hx hb d_PM_comesByRow_5 rfl (lv_at hl 2 rfl) ?_
  refine lv_iload_n hx hb d_PM_comesByRow_6 rfl (lv_at hl 3 rfl) ?_
  refine lv_iload hx hb d_PM_comesByRow_7 (lv_at hl 4 rfl) ?_
  obtain ⟨r1, g_r1, h⟩ := ob_some h
  refine cl_PM_219 (rest := []) C hD (hml.trans hl.1.symm) hW g_r1 ⟨Nat.le_of_ble_eq_true rfl, Nat.le_of_ble_eq_true rfl⟩ (Nat.le_of_ble_eq_true rfl) d_PM_comesByRow_9 ⟨Nat.zero_le _, Nat.zero_le _⟩ (fun H locs hW => ?_)
  refine lv_aload_n hx hb d_PM_comesByRow_12 rfl (lv_at hl 0 rfl) ?_
  refine lv_iload_n hx hb d_PM_comesByRow_13 rfl (lv_at hl 1 rfl) ?_
  refine lv_iload_n hx hb d_PM_comesByRow_14 rfl (lv_at hl 2 rfl) ?_
  obtain ⟨r2, g_r2, h⟩ := ob_some h
  refine cl_PM_105 (rest := []) C (hml.trans hl.1.symm) hW.1 g_r2 ⟨Nat.le_of_ble_eq_true rfl, Nat.le_of_ble_eq_true rfl⟩ (Nat.le_of_ble_eq_true rfl) d_PM_comesByRow_15 ⟨Nat.zero_le _, Nat.zero_le _⟩ ?_
  refine lv_istore (lv' := [(5, .int r2), (0, .ref (ad 0)), (1, .int a1), (2, .int a2), (3, .int a3), (4, .int a4)]) hx hb d_PM_comesByRow_18 hl (by decide) rfl (fun ls hl => ?_)
  refine lv_iload hx hb d_PM_comesByRow_20 (lv_at hl 0 rfl) ?_
  refine lv_iconst (v := (-1)) hx hb d_PM_comesByRow_22 (by decide) ?_
  refine lv_icmp_eq (tgt := 48) hx hb d_PM_comesByRow_23 (by decide) (fun c3 => ?_) (fun c3 => ?_)
  · rw [if_pos c3] at h
    refine lv_aload_n hx hb d_PM_comesByRow_48 rfl (lv_at hl 1 rfl) ?_
    refine lv_iload_n hx hb d_PM_comesByRow_49 rfl (lv_at hl 3 rfl) ?_
    refine pf_PM_59 C hD hW d_PM_comesByRow_50 (fun H locs hW => ?_)
    obtain ⟨σ8, e_σ8, h⟩ := lt1_some h
    rw [← e_σ8] at hW
    refine lv_iconst (v := 1) hx hb d_PM_comesByRow_53 (by decide) ?_
    exact W.zret hx hb hr rfl (fun t ht _ => qm_i h ht hW) hW.2.2.2 d_PM_comesByRow_54
  · rw [if_neg c3] at h
    refine lv_aload_n hx hb d_PM_comesByRow_26 rfl (lv_at hl 1 rfl) ?_
    refine lv_iload hx hb d_PM_comesByRow_27 (lv_at hl 0 rfl) ?_
    refine lv_iload_n hx hb d_PM_comesByRow_29 rfl (lv_at hl 3 rfl) ?_
    refine lv_ldc (v := 1000000) hx hb hown (hts _ w_343) d_PM_comesByRow_30 ?_
    obtain ⟨r4, g_r4, h⟩ := ob_some h
    refine cl_PM_168 (rest := []) C hD (hml.trans hl.1.symm) hW g_r4 ⟨Nat.le_of_ble_eq_true rfl, Nat.le_of_ble_eq_true rfl⟩ (Nat.le_of_ble_eq_true rfl) d_PM_comesByRow_32 ⟨Nat.zero_le _, Nat.zero_le _⟩ (fun H locs hW => ?_)
    refine lv_if_ne (tgt := 48) hx hb d_PM_comesByRow_35 (by decide) (fun c5 => ?_) (fun c5 => ?_)
    · rw [if_neg c5] at h
      refine lv_aload_n hx hb d_PM_comesByRow_48 rfl (lv_at hl 1 rfl) ?_
      refine lv_iload_n hx hb d_PM_comesByRow_49 rfl (lv_at hl 3 rfl) ?_
      refine pf_PM_59 C hD hW d_PM_comesByRow_50 (fun H locs hW => ?_)
      obtain ⟨σ7, e_σ7, h⟩ := lt1_some h
      rw [← e_σ7] at hW
      refine lv_iconst (v := 1) hx hb d_PM_comesByRow_53 (by decide) ?_
      exact W.zret hx hb hr rfl (fun t ht _ => qm_i h ht hW) hW.2.2.2 d_PM_comesByRow_54
    · rw [if_pos c5] at h
      refine lv_aload_n hx hb d_PM_comesByRow_38 rfl (lv_at hl 1 rfl) ?_
      refine gf_PM_26 C hW.1 d_PM_comesByRow_39 ?_
      refine lv_iload_n hx hb d_PM_comesByRow_42 rfl (lv_at hl 2 rfl) ?_
      obtain ⟨r6, g_r6, h⟩ := ob_some h
      refine cl_PM_220 (rest := []) C hD (hml.trans hl.1.symm) hW g_r6 ⟨Nat.le_of_ble_eq_true rfl, Nat.le_of_ble_eq_true rfl⟩ (Nat.le_of_ble_eq_true rfl) d_PM_comesByRow_43 ⟨Nat.zero_le _, Nat.zero_le _⟩ (fun H locs hW => ?_)
      refine lv_iconst (v := 0) hx hb d_PM_comesByRow_46 (by decide) ?_
      exact W.zret hx hb hr rfl (fun t ht _ => qm_i h ht hW) hW.2.2.2 d_PM_comesByRow_47
section RC
variable {p : Program} {l : Launch} {e : Env} {R : Room} {s : State} {m : MethodId} {args : Array Value} {below : List Frame} {meth : Method} {c : Code} {H : Heap} {locs : List Loc} {cells slots : Nat} {Q : State → Prop}
variable {cc : ByteArray} {pc : Nat} {ls : Array Slot} {rest : List Value} {G : va_G} {ad : Nat → Nat} {cI cZ : ClassId} {σ : Sg} {own : String}
theorem cl_PM_112 (C : CX "PlaceMoves" cc p s m args c G cI cZ) (hD : DX ad) (hml : c.maxLocals = ls.size) (hW : WS G ad cI cZ s σ H locs) {x1 : Int32} {x2 : Int32} {x3 : Int32} {x4 : Int32} {r : Int32 × Sg} (hg : f_PM_comesByRow σ x1 x2 x3 x4 = some r) (hR : 6 + 1 ≤ R.frames ∧ 8 + (6 + 11) + 140 ≤ R.locals) (hrest : (rest.map fun v => v.category).sum ≤ 8) (hd : decode cc pc = .ok (.invokevirtual 112, 3)) (hcs : cells + 0 ≤ R.cells ∧ slots + 0 ≤ R.slots) (kk : ∀ (H1 : Heap) (locs1 : List Loc), WS G ad cI cZ s (r.2) H1 locs1 → W p l e R s m args below meth c H1 locs1 cells slots Q (F0 m (pc + 3) ls (.int r.1 :: rest))) : W p l e R s m args below meth c H locs cells slots Q (F0 m pc ls (.int x4 :: .int x3 :: .int x2 :: .int x1 :: .ref (ad 0) :: rest)) :=
  va_calli (va_runV (As := [.int x1, .int x2, .int x3, .int x4]) (rest := rest) ⟨C.1, C.2.1, hml, C.2.2.1, C.2.2.2.1⟩ (c_PM_comesByRow l G ad cI cZ hD σ x1 x2 x3 x4 r hg) (cwV 4 C.2.2.2.1 (wg_V w_418 w_420 ws_7 w_1 w_421) rfl rfl rfl (by decide +kernel) hR) ⟨PcX.blind, va_recv C.2.2.2.2.1 hW.1 (ci := 0) (q0 := 0) rfl rfl, fun U hU hZ => ⟨rfl, by rw [hU]; exact hW.1, C.2.2.2.2.warm hZ⟩⟩ rfl rfl rfl rfl (lv_room hrest) hd hcs) hW.2 (fun _ _ z => z) (fun _ z => z) (fun r' u t H1 locs1 ht _ hp hB _ _ hS => by subst hp; exact kk H1 locs1 ⟨by rw [← ht]; exact hB, hS⟩)
end RC
abbrev wl_Doors_add : List Cond := .code ⟨"PlaceMoves$Doors", "add", "(IIII)I"⟩ prog_2_method_2_code 6 (some FieldType.int) :: WG
set_option maxHeartbeats 4000000 in
set_option maxRecDepth 100000 in
theorem c_Doors_add (l : Launch) (G : va_G) (ad : Nat → Nat) (cI cZ : ClassId) (hD : DX ad) (σ : Sg) (a1 : Int32) (a2 : Int32) (a3 : Int32) (a4 : Int32) (out : Int32 × Sg) (h : f_Doors_add σ a1 a2 a3 a4 = some out) : Met l ⟨"PlaceMoves$Doors", "add", "(IIII)I"⟩ wl_Doors_add ({ frames := 1, cells := 0, slots := 0, locals := 21 } : Room) (PcX G ad cI cZ σ [.ref (ad 4), .int a1, .int a2, .int a3, .int a4]) (QMi G ad cI cZ out) 0 0 (AX ad) := by
  refine Met.ofW (cc := prog_2_method_2_code) (maxL := 6) (ret := (some FieldType.int)) (by decide) rfl ?_
  intro p e s m args below meth c s₁ B hml hv
  obtain ⟨rfl, hP, hK⟩ := hv
  have hx := B.exec
  have hb := B.bytes
  have hr := B.returns
  have hts0 := atoms_spec (ws := wl_Doors_add) B.pre
  have hts : ∀ w ∈ WG, w.before _ s = true := fun w hw => hts0 w (List.mem_cons_of_mem _ hw)
  have hown : s.vm.findClass "PlaceMoves$Doors" = some m.cls := findClass_of_methodNamed B.named
  have hlocks := B.notSynchronized
  have C : CX "PlaceMoves$Doors" prog_2_method_2_code p s m _ c G cI cZ := ⟨hx, hb, hown, hts, hK⟩
  have hl := lv_entry ([.ref (ad 4), .int a1, .int a2, .int a3, .int a4]) (n := 6) (Nat.le_of_ble_eq_true rfl)
  rw [lg_entry_eq]
  generalize (lg_sl ([.ref (ad 4), .int a1, .int a2, .int a3, .int a4]) ++ List.replicate (6 - (lg_sl ([.ref (ad 4), .int a1, .int a2, .int a3, .int a4])).length) Slot.unset).toArray = ls at hl ⊢
  have hl : lv_has ls 6 [(0, .ref (ad 4)), (1, .int a1), (2, .int a2), (3, .int a3), (4, .int a4)] := hl
  unfold f_Doors_add at h
  have hW : WS G ad cI cZ s σ s.heap [] := ⟨hP, va_S.rf⟩
  refine lv_aload_n hx hb d_Doors_add_0 rfl (lv_at hl 0 rfl) ?_
  refine gf_Doors_24 C hW.1 d_Doors_add_1 ?_
  refine lv_istore (lv' := [(5, .int (σ 4 0)), (0, .ref (ad 4)), (1, .int a1), (2, .int a2), (3, .int a3), (4, .int a4)]) hx hb d_Doors_add_4 hl (by decide) rfl (fun ls hl => ?_)
  refine lv_aload_n hx hb d_Doors_add_6 rfl (lv_at hl 1 rfl) ?_
  refine gf_Doors_9 C hW.1 d_Doors_add_7 ?_
  refine lv_iload hx hb d_Doors_add_10 (lv_at hl 0 rfl) ?_
  refine lv_iload_n hx hb d_Doors_add_12 rfl (lv_at hl 2 rfl) ?_
  obtain ⟨hin, h⟩ := gd_some h
  refine as_21 C hD hW hin d_Doors_add_13 (fun H locs hW => ?_)
  obtain ⟨σ1, e_σ1, h⟩ := lt1_some h
  rw [← e_σ1] at hW
  refine lv_aload_n hx hb d_Doors_add_14 rfl (lv_at hl 1 rfl) ?_
  refine gf_Doors_15 C hW.1 d_Doors_add_15 ?_
  refine lv_iload hx hb d_Doors_add_18 (lv_at hl 0 rfl) ?_
  refine lv_iload_n hx hb d_Doors_add_20 rfl (lv_at hl 3 rfl) ?_
  obtain ⟨hin, h⟩ := gd_some h
  refine as_22 C hD hW hin d_Doors_add_21 (fun H locs hW => ?_)
  obtain ⟨σ2, e_σ2, h⟩ := lt1_some h
  rw [← e_σ2] at hW
  refine lv_aload_n hx hb d_Doors_add_22 rfl (lv_at hl 1 rfl) ?_
  refine gf_Doors_18 C hW.1 d_Doors_add_23 ?_
  refine lv_iload hx hb d_Doors_add_26 (lv_at hl 0 rfl) ?_
  refine lv_iload_n hx hb d_Doors_add_28 rfl (lv_at hl 4 rfl) ?_
  refine lv_iload hx hb d_Doors_add_29 (lv_at hl 5 rfl) ?_
  refine mm_Doors_28 (rest := [.int (σ 4 0), .ref (ad 23)]) C (hml.trans hl.1.symm) ⟨Nat.le_of_ble_eq_true rfl, Nat.le_of_ble_eq_true rfl⟩ (Nat.le_of_ble_eq_true rfl) d_Doors_add_31 ⟨Nat.zero_le _, Nat.zero_le _⟩ ?_
  obtain ⟨hin, h⟩ := gd_some h
  refine as_23 C hD hW hin d_Doors_add_34 (fun H locs hW => ?_)
  obtain ⟨σ3, e_σ3, h⟩ := lt1_some h
  rw [← e_σ3] at hW
  refine lv_aload_n hx hb d_Doors_add_35 rfl (lv_at hl 1 rfl) ?_
  refine gf_Doors_21 C hW.1 d_Doors_add_36 ?_
  refine lv_iload hx hb d_Doors_add_39 (lv_at hl 0 rfl) ?_
  refine lv_iload_n hx hb d_Doors_add_41 rfl (lv_at hl 4 rfl) ?_
  refine lv_iload hx hb d_Doors_add_42 (lv_at hl 5 rfl) ?_
  refine mm_Doors_34 (rest := [.int (σ 4 0), .ref (ad 24)]) C (hml.trans hl.1.symm) ⟨Nat.le_of_ble_eq_true rfl, Nat.le_of_ble_eq_true rfl⟩ (Nat.le_of_ble_eq_true rfl) d_Doors_add_44 ⟨Nat.zero_le _, Nat.zero_le _⟩ ?_
  obtain ⟨hin, h⟩ := gd_some h
  refine as_24 C hD hW hin d_Doors_add_47 (fun H locs hW => ?_)
  obtain ⟨σ4, e_σ4, h⟩ := lt1_some h
  rw [← e_σ4] at hW
  refine lv_aload_n hx hb d_Doors_add_48 rfl (lv_at hl 1 rfl) ?_
  refine lv_iload hx hb d_Doors_add_49 (lv_at hl 0 rfl) ?_
  refine lv_iconst (v := 1) hx hb d_Doors_add_51 (by decide) ?_
  refine lv_iadd hx hb d_Doors_add_52 ?_
  refine pf_Doors_24 C hD hW d_Doors_add_53 (fun H locs hW => ?_)
  obtain ⟨σ5, e_σ5, h⟩ := lt1_some h
  rw [← e_σ5] at hW
  refine lv_iload hx hb d_Doors_add_56 (lv_at hl 0 rfl) ?_
  exact W.iret hx hb hr (fun t ht _ => qm_i h ht hW) hW.2.2.2 d_Doors_add_58
section RC
variable {p : Program} {l : Launch} {e : Env} {R : Room} {s : State} {m : MethodId} {args : Array Value} {below : List Frame} {meth : Method} {c : Code} {H : Heap} {locs : List Loc} {cells slots : Nat} {Q : State → Prop}
variable {cc : ByteArray} {pc : Nat} {ls : Array Slot} {rest : List Value} {G : va_G} {ad : Nat → Nat} {cI cZ : ClassId} {σ : Sg} {own : String}
theorem cl_PM_152 (C : CX "PlaceMoves" cc p s m args c G cI cZ) (hD : DX ad) (hml : c.maxLocals = ls.size) (hW : WS G ad cI cZ s σ H locs) {x1 : Int32} {x2 : Int32} {x3 : Int32} {x4 : Int32} {r : Int32 × Sg} (hg : f_Doors_add σ x1 x2 x3 x4 = some r) (hR : 1 + 1 ≤ R.frames ∧ 8 + (6 + 11) + 21 ≤ R.locals) (hrest : (rest.map fun v => v.category).sum ≤ 8) (hd : decode cc pc = .ok (.invokevirtual 152, 3)) (hcs : cells + 0 ≤ R.cells ∧ slots + 0 ≤ R.slots) (kk : ∀ (H1 : Heap) (locs1 : List Loc), WS G ad cI cZ s (r.2) H1 locs1 → W p l e R s m args below meth c H1 locs1 cells slots Q (F0 m (pc + 3) ls (.int r.1 :: rest))) : W p l e R s m args below meth c H locs cells slots Q (F0 m pc ls (.int x4 :: .int x3 :: .int x2 :: .int x1 :: .ref (ad 4) :: rest)) :=
  va_calli (va_runV (As := [.int x1, .int x2, .int x3, .int x4]) (rest := rest) ⟨C.1, C.2.1, hml, C.2.2.1, C.2.2.2.1⟩ (c_Doors_add l G ad cI cZ hD σ x1 x2 x3 x4 r hg) (cwV 4 C.2.2.2.1 (wg_V w_508 w_509 w_510 w_5 w_511) rfl rfl rfl (by decide +kernel) hR) ⟨PcX.blind, va_recv C.2.2.2.2.1 hW.1 (ci := 4) (q0 := 4) rfl rfl, fun U hU hZ => ⟨rfl, by rw [hU]; exact hW.1, C.2.2.2.2.warm hZ⟩⟩ rfl rfl rfl rfl (lv_room hrest) hd hcs) hW.2 (fun _ _ z => z) (fun _ z => z) (fun r' u t H1 locs1 ht _ hp hB _ _ hS => by subst hp; exact kk H1 locs1 ⟨by rw [← ht]; exact hB, hS⟩)
end RC
abbrev wl_Plans_add : List Cond := .code ⟨"PlaceMoves$Plans", "add", "(IIII)V"⟩ prog_4_method_2_code 5 none :: WG
set_option maxHeartbeats 4000000 in
set_option maxRecDepth 100000 in
theorem c_Plans_add (l : Launch) (G : va_G) (ad : Nat → Nat) (cI cZ : ClassId) (hD : DX ad) (σ : Sg) (a1 : Int32) (a2 : Int32) (a3 : Int32) (a4 : Int32) (out : Sg) (h : f_Plans_add σ a1 a2 a3 a4 = some out) : Met l ⟨"PlaceMoves$Plans", "add", "(IIII)V"⟩ wl_Plans_add ({ frames := 0, cells := 0, slots := 0, locals := 0 } : Room) (PcX G ad cI cZ σ [.ref (ad 5), .int a1, .int a2, .int a3, .int a4]) (QMv G ad cI cZ out) 0 0 (AX ad) := by
  refine Met.ofW (cc := prog_4_method_2_code) (maxL := 5) (ret := none) (by decide) rfl ?_
  intro p e s m args below meth c s₁ B hml hv
  obtain ⟨rfl, hP, hK⟩ := hv
  have hx := B.exec
  have hb := B.bytes
  have hr := B.returns
  have hts0 := atoms_spec (ws := wl_Plans_add) B.pre
  have hts : ∀ w ∈ WG, w.before _ s = true := fun w hw => hts0 w (List.mem_cons_of_mem _ hw)
  have hown : s.vm.findClass "PlaceMoves$Plans" = some m.cls := findClass_of_methodNamed B.named
  have hlocks := B.notSynchronized
  have C : CX "PlaceMoves$Plans" prog_4_method_2_code p s m _ c G cI cZ := ⟨hx, hb, hown, hts, hK⟩
  have hl := lv_entry ([.ref (ad 5), .int a1, .int a2, .int a3, .int a4]) (n := 5) (Nat.le_of_ble_eq_true rfl)
  rw [lg_entry_eq]
  generalize (lg_sl ([.ref (ad 5), .int a1, .int a2, .int a3, .int a4]) ++ List.replicate (5 - (lg_sl ([.ref (ad 5), .int a1, .int a2, .int a3, .int a4])).length) Slot.unset).toArray = ls at hl ⊢
  have hl : lv_has ls 5 [(0, .ref (ad 5)), (1, .int a1), (2, .int a2), (3, .int a3), (4, .int a4)] := hl
  unfold f_Plans_add at h
  have hW : WS G ad cI cZ s σ s.heap [] := ⟨hP, va_S.rf⟩
  refine lv_aload_n hx hb d_Plans_add_0 rfl (lv_at hl 0 rfl) ?_
  refine gf_Plans_9 C hW.1 d_Plans_add_1 ?_
  refine lv_aload_n hx hb d_Plans_add_4 rfl (lv_at hl 0 rfl) ?_
  refine gf_Plans_24 C hW.1 d_Plans_add_5 ?_
  refine lv_iload_n hx hb d_Plans_add_8 rfl (lv_at hl 1 rfl) ?_
  obtain ⟨hin, h⟩ := gd_some h
  refine as_25 C hD hW hin d_Plans_add_9 (fun H locs hW => ?_)
  obtain ⟨σ1, e_σ1, h⟩ := lt1_some h
  rw [← e_σ1] at hW
  refine lv_aload_n hx hb d_Plans_add_10 rfl (lv_at hl 0 rfl) ?_
  refine gf_Plans_15 C hW.1 d_Plans_add_11 ?_
  refine lv_aload_n hx hb d_Plans_add_14 rfl (lv_at hl 0 rfl) ?_
  refine gf_Plans_24 C hW.1 d_Plans_add_15 ?_
  refine lv_iload_n hx hb d_Plans_add_18 rfl (lv_at hl 2 rfl) ?_
  obtain ⟨hin, h⟩ := gd_some h
  refine as_26 C hD hW hin d_Plans_add_19 (fun H locs hW => ?_)
  obtain ⟨σ2, e_σ2, h⟩ := lt1_some h
  rw [← e_σ2] at hW
  refine lv_aload_n hx hb d_Plans_add_20 rfl (lv_at hl 0 rfl) ?_
  refine gf_Plans_18 C hW.1 d_Plans_add_21 ?_
  refine lv_aload_n hx hb d_Plans_add_24 rfl (lv_at hl 0 rfl) ?_
  refine gf_Plans_24 C hW.1 d_Plans_add_25 ?_
  refine lv_iload_n hx hb d_Plans_add_28 rfl (lv_at hl 3 rfl) ?_
  obtain ⟨hin, h⟩ := gd_some h
  refine as_27 C hD hW hin d_Plans_add_29 (fun H locs hW => ?_)
  obtain ⟨σ3, e_σ3, h⟩ := lt1_some h
  rw [← e_σ3] at hW
  refine lv_aload_n hx hb d_Plans_add_30 rfl (lv_at hl 0 rfl) ?_
  refine gf_Plans_21 C hW.1 d_Plans_add_31 ?_
  refine lv_aload_n hx hb d_Plans_add_34 rfl (lv_at hl 0 rfl) ?_
  refine gf_Plans_24 C hW.1 d_Plans_add_35 ?_
  refine lv_iload hx hb d_Plans_add_38 (lv_at hl 4 rfl) ?_
  obtain ⟨hin, h⟩ := gd_some h
  refine as_28 C hD hW hin d_Plans_add_40 (fun H locs hW => ?_)
  obtain ⟨σ4, e_σ4, h⟩ := lt1_some h
  rw [← e_σ4] at hW
  refine lv_aload_n hx hb d_Plans_add_41 rfl (lv_at hl 0 rfl) ?_
  refine lv_dup hx hb d_Plans_add_42 rfl ?_
  refine gf_Plans_24 C hW.1 d_Plans_add_43 ?_
  refine lv_iconst (v := 1) hx hb d_Plans_add_46 (by decide) ?_
  refine lv_iadd hx hb d_Plans_add_47 ?_
  refine pf_Plans_24 C hD hW d_Plans_add_48 (fun H locs hW => ?_)
  obtain ⟨σ5, e_σ5, h⟩ := lt1_some h
  rw [← e_σ5] at hW
  exact W.vret hx hb hr (fun t ht _ => qm_v h ht hW) hW.2.2.2 d_Plans_add_51
section RC
variable {p : Program} {l : Launch} {e : Env} {R : Room} {s : State} {m : MethodId} {args : Array Value} {below : List Frame} {meth : Method} {c : Code} {H : Heap} {locs : List Loc} {cells slots : Nat} {Q : State → Prop}
variable {cc : ByteArray} {pc : Nat} {ls : Array Slot} {rest : List Value} {G : va_G} {ad : Nat → Nat} {cI cZ : ClassId} {σ : Sg} {own : String}
theorem cl_PM_165 (C : CX "PlaceMoves" cc p s m args c G cI cZ) (hD : DX ad) (hml : c.maxLocals = ls.size) (hW : WS G ad cI cZ s σ H locs) {x1 : Int32} {x2 : Int32} {x3 : Int32} {x4 : Int32} {r : Sg} (hg : f_Plans_add σ x1 x2 x3 x4 = some r) (hR : 0 + 1 ≤ R.frames ∧ 8 + (5 + 11) + 0 ≤ R.locals) (hrest : (rest.map fun v => v.category).sum ≤ 8) (hd : decode cc pc = .ok (.invokevirtual 165, 3)) (hcs : cells + 0 ≤ R.cells ∧ slots + 0 ≤ R.slots) (kk : ∀ (H1 : Heap) (locs1 : List Loc), WS G ad cI cZ s (r) H1 locs1 → W p l e R s m args below meth c H1 locs1 cells slots Q (F0 m (pc + 3) ls rest)) : W p l e R s m args below meth c H locs cells slots Q (F0 m pc ls (.int x4 :: .int x3 :: .int x2 :: .int x1 :: .ref (ad 5) :: rest)) :=
  va_callv (va_runV (As := [.int x1, .int x2, .int x3, .int x4]) (rest := rest) ⟨C.1, C.2.1, hml, C.2.2.1, C.2.2.2.1⟩ (c_Plans_add l G ad cI cZ hD σ x1 x2 x3 x4 r hg) (cwV 4 C.2.2.2.1 (wg_V w_559 w_560 w_561 w_6 w_562) rfl rfl rfl (by decide +kernel) hR) ⟨PcX.blind, va_recv C.2.2.2.2.1 hW.1 (ci := 5) (q0 := 5) rfl rfl, fun U hU hZ => ⟨rfl, by rw [hU]; exact hW.1, C.2.2.2.2.warm hZ⟩⟩ rfl rfl rfl rfl (lv_room hrest) hd hcs) hW.2 (fun _ _ z => z) (fun _ z => z) (fun u t H1 locs1 ht _ _ hB _ _ hS => kk H1 locs1 ⟨by rw [← ht]; exact hB, hS⟩)
end RC
abbrev wl_Plans_dropNewest : List Cond := .code ⟨"PlaceMoves$Plans", "dropNewest", "()V"⟩ prog_4_method_3_code 1 none :: WG
set_option maxHeartbeats 4000000 in
set_option maxRecDepth 100000 in
theorem c_Plans_dropNewest (l : Launch) (G : va_G) (ad : Nat → Nat) (cI cZ : ClassId) (hD : DX ad) (σ : Sg)  (out : Sg) (h : f_Plans_dropNewest σ  = some out) : Met l ⟨"PlaceMoves$Plans", "dropNewest", "()V"⟩ wl_Plans_dropNewest ({ frames := 0, cells := 0, slots := 0, locals := 0 } : Room) (PcX G ad cI cZ σ [.ref (ad 5)]) (QMv G ad cI cZ out) 0 0 (AX ad) := by
  refine Met.ofW (cc := prog_4_method_3_code) (maxL := 1) (ret := none) (by decide) rfl ?_
  intro p e s m args below meth c s₁ B hml hv
  obtain ⟨rfl, hP, hK⟩ := hv
  have hx := B.exec
  have hb := B.bytes
  have hr := B.returns
  have hts0 := atoms_spec (ws := wl_Plans_dropNewest) B.pre
  have hts : ∀ w ∈ WG, w.before _ s = true := fun w hw => hts0 w (List.mem_cons_of_mem _ hw)
  have hown : s.vm.findClass "PlaceMoves$Plans" = some m.cls := findClass_of_methodNamed B.named
  have hlocks := B.notSynchronized
  have C : CX "PlaceMoves$Plans" prog_4_method_3_code p s m _ c G cI cZ := ⟨hx, hb, hown, hts, hK⟩
  have hl := lv_entry ([.ref (ad 5)]) (n := 1) (Nat.le_of_ble_eq_true rfl)
  rw [lg_entry_eq]
  generalize (lg_sl ([.ref (ad 5)]) ++ List.replicate (1 - (lg_sl ([.ref (ad 5)])).length) Slot.unset).toArray = ls at hl ⊢
  have hl : lv_has ls 1 [(0, .ref (ad 5))] := hl
  unfold f_Plans_dropNewest at h
  have hW : WS G ad cI cZ s σ s.heap [] := ⟨hP, va_S.rf⟩
  refine lv_aload_n hx hb d_Plans_dropNewest_0 rfl (lv_at hl 0 rfl) ?_
  refine lv_dup hx hb d_Plans_dropNewest_1 rfl ?_
  refine gf_Plans_24 C hW.1 d_Plans_dropNewest_2 ?_
  refine lv_iconst (v := 1) hx hb d_Plans_dropNewest_5 (by decide) ?_
  refine lv_isub hx hb d_Plans_dropNewest_6 ?_
  refine pf_Plans_24 C hD hW d_Plans_dropNewest_7 (fun H locs hW => ?_)
  obtain ⟨σ1, e_σ1, h⟩ := lt1_some h
  rw [← e_σ1] at hW
  exact W.vret hx hb hr (fun t ht _ => qm_v h ht hW) hW.2.2.2 d_Plans_dropNewest_10
section RC
variable {p : Program} {l : Launch} {e : Env} {R : Room} {s : State} {m : MethodId} {args : Array Value} {below : List Frame} {meth : Method} {c : Code} {H : Heap} {locs : List Loc} {cells slots : Nat} {Q : State → Prop}
variable {cc : ByteArray} {pc : Nat} {ls : Array Slot} {rest : List Value} {G : va_G} {ad : Nat → Nat} {cI cZ : ClassId} {σ : Sg} {own : String}
theorem cl_PM_171 (C : CX "PlaceMoves" cc p s m args c G cI cZ) (hD : DX ad) (hml : c.maxLocals = ls.size) (hW : WS G ad cI cZ s σ H locs)  {r : Sg} (hg : f_Plans_dropNewest σ  = some r) (hR : 0 + 1 ≤ R.frames ∧ 8 + (1 + 11) + 0 ≤ R.locals) (hrest : (rest.map fun v => v.category).sum ≤ 8) (hd : decode cc pc = .ok (.invokevirtual 171, 3)) (hcs : cells + 0 ≤ R.cells ∧ slots + 0 ≤ R.slots) (kk : ∀ (H1 : Heap) (locs1 : List Loc), WS G ad cI cZ s (r) H1 locs1 → W p l e R s m args below meth c H1 locs1 cells slots Q (F0 m (pc + 3) ls rest)) : W p l e R s m args below meth c H locs cells slots Q (F0 m pc ls (.ref (ad 5) :: rest)) :=
  va_callv (va_runV (As := []) (rest := rest) ⟨C.1, C.2.1, hml, C.2.2.1, C.2.2.2.1⟩ (c_Plans_dropNewest l G ad cI cZ hD σ  r hg) (cwV 0 C.2.2.2.1 (wg_V w_563 w_564 w_565 w_6 w_566) rfl rfl rfl (by decide +kernel) hR) ⟨PcX.blind, va_recv C.2.2.2.2.1 hW.1 (ci := 5) (q0 := 5) rfl rfl, fun U hU hZ => ⟨rfl, by rw [hU]; exact hW.1, C.2.2.2.2.warm hZ⟩⟩ rfl rfl rfl rfl (lv_room hrest) hd hcs) hW.2 (fun _ _ z => z) (fun _ z => z) (fun u t H1 locs1 ht _ _ hB _ _ hS => kk H1 locs1 ⟨by rw [← ht]; exact hB, hS⟩)
end RC
abbrev wl_QuietTimes_add : List Cond := .code ⟨"PlaceMoves$QuietTimes", "add", "(III)V"⟩ prog_5_method_2_code 4 none :: WG
set_option maxHeartbeats 4000000 in
set_option maxRecDepth 100000 in
theorem c_QuietTimes_add (l : Launch) (G : va_G) (ad : Nat → Nat) (cI cZ : ClassId) (hD : DX ad) (σ : Sg) (a1 : Int32) (a2 : Int32) (a3 : Int32) (out : Sg) (h : f_QuietTimes_add σ a1 a2 a3 = some out) : Met l ⟨"PlaceMoves$QuietTimes", "add", "(III)V"⟩ wl_QuietTimes_add ({ frames := 0, cells := 0, slots := 0, locals := 0 } : Room) (PcX G ad cI cZ σ [.ref (ad 6), .int a1, .int a2, .int a3]) (QMv G ad cI cZ out) 0 0 (AX ad) := by
  refine Met.ofW (cc := prog_5_method_2_code) (maxL := 4) (ret := none) (by decide) rfl ?_
  intro p e s m args below meth c s₁ B hml hv
  obtain ⟨rfl, hP, hK⟩ := hv
  have hx := B.exec
  have hb := B.bytes
  have hr := B.returns
  have hts0 := atoms_spec (ws := wl_QuietTimes_add) B.pre
  have hts : ∀ w ∈ WG, w.before _ s = true := fun w hw => hts0 w (List.mem_cons_of_mem _ hw)
  have hown : s.vm.findClass "PlaceMoves$QuietTimes" = some m.cls := findClass_of_methodNamed B.named
  have hlocks := B.notSynchronized
  have C : CX "PlaceMoves$QuietTimes" prog_5_method_2_code p s m _ c G cI cZ := ⟨hx, hb, hown, hts, hK⟩
  have hl := lv_entry ([.ref (ad 6), .int a1, .int a2, .int a3]) (n := 4) (Nat.le_of_ble_eq_true rfl)
  rw [lg_entry_eq]
  generalize (lg_sl ([.ref (ad 6), .int a1, .int a2, .int a3]) ++ List.replicate (4 - (lg_sl ([.ref (ad 6), .int a1, .int a2, .int a3])).length) Slot.unset).toArray = ls at hl ⊢
  have hl : lv_has ls 4 [(0, .ref (ad 6)), (1, .int a1), (2, .int a2), (3, .int a3)] := hl
  unfold f_QuietTimes_add at h
  have hW : WS G ad cI cZ s σ s.heap [] := ⟨hP, va_S.rf⟩
  refine lv_aload_n hx hb d_QuietTimes_add_0 rfl (lv_at hl 0 rfl) ?_
  refine gf_QuietTimes_9 C hW.1 d_QuietTimes_add_1 ?_
  refine lv_aload_n hx hb d_QuietTimes_add_4 rfl (lv_at hl 0 rfl) ?_
  refine gf_QuietTimes_21 C hW.1 d_QuietTimes_add_5 ?_
  refine lv_iload_n hx hb d_QuietTimes_add_8 rfl (lv_at hl 1 rfl) ?_
  obtain ⟨hin, h⟩ := gd_some h
  refine as_29 C hD hW hin d_QuietTimes_add_9 (fun H locs hW => ?_)
  obtain ⟨σ1, e_σ1, h⟩ := lt1_some h
  rw [← e_σ1] at hW
  refine lv_aload_n hx hb d_QuietTimes_add_10 rfl (lv_at hl 0 rfl) ?_
  refine gf_QuietTimes_15 C hW.1 d_QuietTimes_add_11 ?_
  refine lv_aload_n hx hb d_QuietTimes_add_14 rfl (lv_at hl 0 rfl) ?_
  refine gf_QuietTimes_21 C hW.1 d_QuietTimes_add_15 ?_
  refine lv_iload_n hx hb d_QuietTimes_add_18 rfl (lv_at hl 2 rfl) ?_
  obtain ⟨hin, h⟩ := gd_some h
  refine as_30 C hD hW hin d_QuietTimes_add_19 (fun H locs hW => ?_)
  obtain ⟨σ2, e_σ2, h⟩ := lt1_some h
  rw [← e_σ2] at hW
  refine lv_aload_n hx hb d_QuietTimes_add_20 rfl (lv_at hl 0 rfl) ?_
  refine gf_QuietTimes_18 C hW.1 d_QuietTimes_add_21 ?_
  refine lv_aload_n hx hb d_QuietTimes_add_24 rfl (lv_at hl 0 rfl) ?_
  refine gf_QuietTimes_21 C hW.1 d_QuietTimes_add_25 ?_
  refine lv_iload_n hx hb d_QuietTimes_add_28 rfl (lv_at hl 3 rfl) ?_
  obtain ⟨hin, h⟩ := gd_some h
  refine as_31 C hD hW hin d_QuietTimes_add_29 (fun H locs hW => ?_)
  obtain ⟨σ3, e_σ3, h⟩ := lt1_some h
  rw [← e_σ3] at hW
  refine lv_aload_n hx hb d_QuietTimes_add_30 rfl (lv_at hl 0 rfl) ?_
  refine lv_dup hx hb d_QuietTimes_add_31 rfl ?_
  refine gf_QuietTimes_21 C hW.1 d_QuietTimes_add_32 ?_
  refine lv_iconst (v := 1) hx hb d_QuietTimes_add_35 (by decide) ?_
  refine lv_iadd hx hb d_QuietTimes_add_36 ?_
  refine pf_QuietTimes_21 C hD hW d_QuietTimes_add_37 (fun H locs hW => ?_)
  obtain ⟨σ4, e_σ4, h⟩ := lt1_some h
  rw [← e_σ4] at hW
  exact W.vret hx hb hr (fun t ht _ => qm_v h ht hW) hW.2.2.2 d_QuietTimes_add_40
section RC
variable {p : Program} {l : Launch} {e : Env} {R : Room} {s : State} {m : MethodId} {args : Array Value} {below : List Frame} {meth : Method} {c : Code} {H : Heap} {locs : List Loc} {cells slots : Nat} {Q : State → Prop}
variable {cc : ByteArray} {pc : Nat} {ls : Array Slot} {rest : List Value} {G : va_G} {ad : Nat → Nat} {cI cZ : ClassId} {σ : Sg} {own : String}
theorem cl_PM_184 (C : CX "PlaceMoves" cc p s m args c G cI cZ) (hD : DX ad) (hml : c.maxLocals = ls.size) (hW : WS G ad cI cZ s σ H locs) {x1 : Int32} {x2 : Int32} {x3 : Int32} {r : Sg} (hg : f_QuietTimes_add σ x1 x2 x3 = some r) (hR : 0 + 1 ≤ R.frames ∧ 8 + (4 + 11) + 0 ≤ R.locals) (hrest : (rest.map fun v => v.category).sum ≤ 8) (hd : decode cc pc = .ok (.invokevirtual 184, 3)) (hcs : cells + 0 ≤ R.cells ∧ slots + 0 ≤ R.slots) (kk : ∀ (H1 : Heap) (locs1 : List Loc), WS G ad cI cZ s (r) H1 locs1 → W p l e R s m args below meth c H1 locs1 cells slots Q (F0 m (pc + 3) ls rest)) : W p l e R s m args below meth c H locs cells slots Q (F0 m pc ls (.int x3 :: .int x2 :: .int x1 :: .ref (ad 6) :: rest)) :=
  va_callv (va_runV (As := [.int x1, .int x2, .int x3]) (rest := rest) ⟨C.1, C.2.1, hml, C.2.2.1, C.2.2.2.1⟩ (c_QuietTimes_add l G ad cI cZ hD σ x1 x2 x3 r hg) (cwV 3 C.2.2.2.1 (wg_V w_582 w_583 w_584 w_7 w_585) rfl rfl rfl (by decide +kernel) hR) ⟨PcX.blind, va_recv C.2.2.2.2.1 hW.1 (ci := 6) (q0 := 6) rfl rfl, fun U hU hZ => ⟨rfl, by rw [hU]; exact hW.1, C.2.2.2.2.warm hZ⟩⟩ rfl rfl rfl rfl (lv_room hrest) hd hcs) hW.2 (fun _ _ z => z) (fun _ z => z) (fun u t H1 locs1 ht _ _ hB _ _ hS => kk H1 locs1 ⟨by rw [← ht]; exact hB, hS⟩)
end RC
end
section
/-! the constructor of an exception whose own link to its parent stands at any entry (java.util.NoSuchElementException's does not stand at 7): from the library's ThrowableC.of_atoms, Init0T.ofS_atoms, PassC.ofS_atoms, chainS, ctorMessageOffV, athrowLeaves -/
def tx_atoms (own : String) (ic : Nat) (E Y : String) (ix : Nat) (rx : ByteArray) (r : List String) : List Cond :=
  Bundle.throwableAtoms ++ Bundle.throwableSAtoms ++ Bundle.passSAtoms E Y ix rx ++ Bundle.chainSAtoms Y r ++
  [.methodLink own ic (Bundle.initS E), .instantiable E 6, .selects E Bundle.tFill0 Bundle.tFill0, .selects E Bundle.tFill Bundle.tFill,
   .lays E Bundle.tN "cause" "Ljava/lang/Throwable;", .lays E Bundle.tN "stackTrace" Bundle.steD, .lays E Bundle.tN "suppressedExceptions" Bundle.listD, .lays E Bundle.tN "detailMessage" "Ljava/lang/String;",
   .isRef (.static Bundle.tN "UNASSIGNED_STACK" Bundle.steD), .isRef (.static Bundle.tN "SUPPRESSED_SENTINEL" Bundle.listD),
   .fieldLink Bundle.tN 198 Bundle.tN "backtrace" "Ljava/lang/Object;", .lays Bundle.tN Bundle.tN "backtrace" "Ljava/lang/Object;", .lays E Bundle.tN "backtrace" "Ljava/lang/Object;"]
section TXC
variable {p : Program} {l : Launch} {e : Env} {R : Room} {s : State} {m₀ : MethodId} {args : Array Value} {below : List Frame} {meth : Method} {c : Code} {T0 : State} {locs : List Loc} {cells slots : Nat}
set_option maxHeartbeats 2000000 in
theorem tx_ctor (X : Stand p l e R s m₀ args below meth c T0 locs cells slots) (hexec : p.tables.exec = Jvm.exec) (htr : e.platform.stackTraces = false) {own cls Y : String} {r : List String} {ic ix : Nat} {rx : ByteArray}
    (hown : s.vm.findClass own = some m₀.cls) (hcls : Bundle.fit cls = true) (hY : Bundle.fit Y = true) (hr : ∀ z ∈ r, Bundle.fit z = true)
    (r0 : decode rx 0 = .ok (.aload_n 0, 1)) (r1 : decode rx 1 = .ok (.aload_n 1, 1)) (r2 : decode rx 2 = .ok (.invokespecial ix, 3)) (r5 : decode rx 5 = .ok (.return_, 1))
    (h : ∀ a ∈ tx_atoms own ic cls Y ix rx r, a.before args s = true)
    (hlocs : ∀ x ∈ locs, ∀ cell, s.heap[x.base]? = some cell → cell.vm.isStatics = false)
    {a : Addr} {cX : ClassId} {kX : Class} (hfoundX : s.vm.findClass cls = some cX) (hkX : s.vm.classes[cX]? = some kX) (hcell : T0.heap[a]? = some (freshCell cX kX)) (hnew : s.heap.size ≤ a)
    {msg : Value} (hmsg : msg.isRef = true)
    {g : JFrame} (hg : g.method = m₀) (hsize : g.locals.size = c.maxLocals) (hlocked : g.locked = none) (hentered : g.entered = []) {rest : List Value} (hstack : g.stack = msg :: .ref a :: .ref a :: rest)
    (hd6 : decode c.code g.pc = .ok (.invokespecial ic, 3)) (hd9 : decode c.code (g.pc + 3) = .ok (.athrow, 1)) (hout : ∀ x ∈ c.exceptionTable.toList, covers x (g.pc + 3) = false)
    (hRframes : r.length + 4 < R.frames) (hRlocals : 2 * g.monitorRoom + ((Value.ref a :: rest).map fun v => v.category).sum + (13 * (r.length + 2) + 42) ≤ R.locals) (hlocks : meth.locks = false) :
    ∃ U : State, Steps p.tables e below (T0.setTop g) U ∧ U.status = .running ∧ Ended U below (.threw a) ∧ s.WarmedH U.vm ∧ s.sameButNew ({ U with vm := s.vm } : State) locs cells slots ∧
      ∃ ce : Cell, U.heap[a]? = some ce ∧ ce.vm = .none ∧ s.vm.findClass cls = some ce.cls := by
  have howns : e.platform.frameOwnsMonitors = true := by rw [X.admits.platform]
  have hfin : e.platform.finalization = false := by rw [X.admits.platform]
  have hpl : e.platform.magicAccessors = ({} : Platform).magicAccessors := by rw [X.admits.platform]
  have a' : ∀ x, x ∈ tx_atoms own ic cls Y ix rx r → x.holds args s none s [] = true := fun x hx => h x hx
  obtain ⟨T, Z0, L, -, V⟩ := ThrowableC.of_atoms (args := args) howns hfin hpl (fun x hx => h x (by simp [tx_atoms, hx]))
  obtain ⟨Z, M, LZ, LM, hnZ⟩ := Init0T.ofS_atoms (args := args) hpl L V (fun x hx => h x (by simp [tx_atoms, hx]))
  obtain ⟨P1, L1, hP1m, hP1s⟩ := PassC.ofS_atoms (args := args) (s := s) hpl (X := cls) (Y := Y) (Bundle.fit_spec hcls).1 (Bundle.fit_spec hY).2 r0 r1 r2 r5 (fun x hx => h x (by simp [tx_atoms, hx]))
  obtain ⟨P2, Ps, hlen, L2, hL, hP2m, hlink2, hlink⟩ := Bundle.chainS (args := args) hpl hnZ r Y hY hr (fun x hx => h x (by simp [tx_atoms, hx]))
  have hlink1 : P1.sup = P2.m := Option.some.inj (hP1s.symm.trans hP2m)
  have hfound : s.vm.findClass cls = some P1.m.cls := findClass_of_methodNamed hP1m
  cases Option.some.inj (hfoundX.symm.trans hfound)
  obtain ⟨c1, kX', hc1, hk, hord, -, -, hn6⟩ := Cond.instantiable_spec (a' (.instantiable cls 6) (by simp [tx_atoms]))
  cases Option.some.inj (hc1.symm.trans hfound)
  cases Option.some.inj (hkX.symm.trans hk)
  have hsel : ∀ {f : MethodName} {q : MethodId}, s.methodNamed? f = some q → (f.cls ≠ "java/lang/invoke/MethodHandle" ∧ f.cls ≠ "java/lang/invoke/VarHandle") → (Cond.selects cls f f).holds args s none s [] = true → selectMethod e.platform s.vm P1.m.cls q = .method q := by
    intro f q hf hne hs
    obtain ⟨c2, r2, m2, q1, q2, q3, q4, -⟩ := Cond.selects_spec hs
    cases Option.some.inj (q1.symm.trans hfound)
    cases Option.some.inj (q2.symm.trans (State.methodFound?_of_named hf hne))
    cases Option.some.inj (q3.symm.trans hf)
    rw [Launch.admits_selectMethod X.admits]; exact q4
  have hsel0 := hsel V.fill0 (by decide) (a' (.selects cls Bundle.tFill0 Bundle.tFill0) (by simp [tx_atoms]))
  have hselF := hsel V.fill (by decide) (a' (.selects cls Bundle.tFill Bundle.tFill) (by simp [tx_atoms]))
  obtain ⟨cellS0, hcS0, hiss⟩ := V.statics
  obtain ⟨u0, hu0⟩ := Cond.staticRefV V.unassigned L.unassignedStatic L.statics hcS0 hiss (a' (.isRef (.static Bundle.tN "UNASSIGNED_STACK" Bundle.steD)) (by simp [tx_atoms]))
  obtain ⟨sen, hsen⟩ := Cond.staticRefV V.sentinel L.sentinelStatic L.statics hcS0 hiss (a' (.isRef (.static Bundle.tN "SUPPRESSED_SENTINEL" Bundle.listD)) (by simp [tx_atoms]))
  obtain ⟨ci198, i198, fB, hk198, hg198, ha198, hsB, -, hnB, htB, hffB⟩ := Cond.ownField (t := .object "java/lang/Object") V.found L.cls (by decide +kernel) (a' (.fieldLink Bundle.tN 198 Bundle.tN "backtrace" "Ljava/lang/Object;") (by simp [tx_atoms])) (a' (.lays Bundle.tN Bundle.tN "backtrace" "Ljava/lang/Object;") (by simp [tx_atoms])) e.platform hpl
  obtain ⟨cellS, hcS', heS, -, hkeep⟩ := X.same.2.2.2.2.2 T.aS cellS0 hcS0
  have hcellS : T0.heap[T.aS]? = some cellS := hcS'
  have hout' : ∀ i, (⟨T.aS, i⟩ : Loc) ∉ locs := fun i hmem => by
    have := hlocs _ hmem cellS0 hcS0
    rw [hiss] at this; cases this
  have hknownS : cellS.vm ≠ .unknown := by
    rw [heS]; intro hu
    rw [show cellS0.vm = .unknown from hu] at hiss
    cases hiss
  have hneS : T.aS ≠ a := Nat.ne_of_lt (Nat.lt_of_lt_of_le (Array.getElem?_eq_some_iff.mp hcS0).1 hnew)
  obtain ⟨iM, hffM⟩ := V.msg
  obtain ⟨tyC, dC, hdC, hdnC⟩ := Cond.laysAt hfound hk V.cause (a' (.lays cls Bundle.tN "cause" "Ljava/lang/Throwable;") (by simp [tx_atoms]))
  obtain ⟨tyS, dS, hdS, hdnS⟩ := Cond.laysAt hfound hk V.stack (a' (.lays cls Bundle.tN "stackTrace" Bundle.steD) (by simp [tx_atoms]))
  obtain ⟨tyP, dP, hdP, hdnP⟩ := Cond.laysAt hfound hk V.supp (a' (.lays cls Bundle.tN "suppressedExceptions" Bundle.listD) (by simp [tx_atoms]))
  obtain ⟨tyM, dM, hdM, hdnM⟩ := Cond.laysAt hfound hk hffM (a' (.lays cls Bundle.tN "detailMessage" "Ljava/lang/String;") (by simp [tx_atoms]))
  obtain ⟨tyB, dB, hdB, hdnB⟩ := Cond.laysAt hfound hk hffB (a' (.lays cls Bundle.tN "backtrace" "Ljava/lang/Object;") (by simp [tx_atoms]))
  have bC := Cond.laysApart hdB hdC hdnB hdnC (by rw [hnB, V.causeName]; decide)
  have bS := Cond.laysApart hdB hdS hdnB hdnS (by rw [hnB, V.stackName]; decide)
  have bP := Cond.laysApart hdB hdP hdnB hdnP (by rw [hnB, V.suppName]; decide)
  have hskip : SkipFacts T e.platform s (fun u => u) u0 ((preparedCellV T.toThrowableT (freshCell P1.m.cls kX) a u0 sen).withEntry T0.cur) :=
    ⟨{ ci198 := ci198, i198 := i198, fBack := fB }, ⟨hk198, hg198, ha198, hsB⟩, by
      have := fresh_default (c := P1.m.cls) tyB
      rw [htB] at this
      simpa [preparedCellV, Cell.setSlot, Cell.withEntry, Array.getElem?_setIfInBounds, bC, bS, bP, bC.symm, bS.symm, bP.symm, defaultValue] using this, fun _ _ => rfl⟩
  obtain ⟨tm, methC, cdC, kC, vm₁, hnC, -, -, -, -, -, -, -, hW₁, st1⟩ := Steps.initColdS (tb := p.tables) (e := e) (below := below) (s := s) (U := T0) X.here hexec X.warmed hpl hown (t := Bundle.initS cls) rfl rfl (Bundle.fit_spec hcls).2
    (a' (.methodLink own ic (Bundle.initS cls)) (by simp [tx_atoms])) (h (.instanceMethod (Bundle.initS cls)) (by simp [tx_atoms, Bundle.passSAtoms])) (bytes := rx) (maxL := 2) (h (.code (Bundle.initS cls) rx 2 none) (by simp [tx_atoms, Bundle.passSAtoms]))
    (f := g) hg (a := a) (msg := msg) (rest := .ref a :: rest) hstack hd6
  cases Option.some.inj (hnC.symm.trans hP1m)
  have X₁ := X.noted hW₁
  obtain ⟨vm₂, X₂, st2⟩ := X₁.ctorMessageOffV hexec (g := { g with stack := .ref a :: rest }) hg hsize T L Z LZ M LM (P1 :: P2 :: Ps)
    (fun P hP => by
      rcases List.mem_cons.mp hP with rfl | hP
      · exact L1
      · rcases List.mem_cons.mp hP with rfl | hP
        · exact L2
        · exact hL P hP) ⟨hlink1, hlink2, hlink⟩ (u0 := u0) (sen := sen) (self := a) hmsg (cell := freshCell P1.m.cls kX) (cellS := cellS)
    hcell (fun _ => by simp) (by simp) rfl rfl hsel0 hselF hcellS hneS hknownS (by rw [hkeep _ (hout' _)]; exact hu0) (by rw [hkeep _ (hout' _)]; exact hsen)
    (Takes.of_laid hk hord tyC (by rw [V.causeType]; rfl)) (Takes.of_laid hk hord tyS (by rw [V.stackType]; exact fits_refV_array _ u0)) (Takes.of_laid hk hord tyP (by rw [V.suppType]; exact fits_refV_object _ sen))
    (Takes.of_laid hk hord tyM (by rw [V.msgType]; exact fits_refV_object _ ⟨msg, hmsg⟩)) V.objLocals hskip htr [] hd6
    (by simp only [List.length_cons, hlen]; omega) (by simp only [List.length_cons, hlen]; exact hRlocals)
  obtain ⟨hwalk, hrun, hended, hWU, hsame⟩ := X₂.athrowLeaves hexec (g := { g with stack := .ref a :: rest, pc := g.pc + 3 }) hg hlocked hentered hout (a := a) (rest := rest) rfl hd9
  have hlt : a < ((T0.setVm vm₁).setVm vm₂).heap.size := (Array.getElem?_eq_some_iff.mp hcell).1
  have hU := heapAt_setCell_self (s := (T0.setVm vm₁).setVm vm₂) (plainBareV T.toThrowableT (freshCell P1.m.cls kX) a u0 sen msg) hlt
  refine ⟨_, st1 _ (fun acts => ?_), hrun, hended, hWU, hsame.weaken (fun y hy hlt' => ?_) (Nat.le_refl _) (Nat.le_refl _), _, hU, rfl, hfound⟩
  · rw [doInvoke_state]
    exact st2 _ hwalk
  · rcases List.mem_append.mp hy with h1 | h1
    · exact h1
    · exfalso
      have hb : y.base = a := by
        simp only [List.mem_cons, List.not_mem_nil, or_false] at h1
        rcases h1 with rfl | rfl | rfl | rfl | rfl <;> rfl
      rw [hb] at hlt'
      exact Nat.not_lt.mpr hnew hlt'
end TXC
end
section
/-! ends of both kinds: a method that returns or throws (rows of mine, over the library's own laws: Steps.callFree, Stand.leaveThrown, Stand.ctorThrowS, Stand.catchAt) -/
section TXA
variable {p : Program} {l : Launch} {e : Env} {R : Room} {s : State} {m : MethodId} {args : Array Value} {below : List Frame} {meth : Method} {c : Code} {H : Heap} {locs : List Loc} {cells slots : Nat} {Q : State → Prop}
variable {y : MethodName} {ws ws' : List Cond} {rm : Room} {Pc : Array Value → State → Prop} {Qc : Array Value → State → Outcome → State → Prop} {mc ms : Nat} {free : Addr → Prop} {cc bytes : ByteArray} {maxL : Nat} {ret : Option FieldType}
def tx_End (first t : State) (L : List Loc) (k n : Nat) : Prop := first.WarmedH t.vm ∧ first.sameButNew ({ t with vm := first.vm } : State) L k n
def tx_Met (l : Launch) (y : MethodName) (ws : List Cond) (rm : Room) (Pc : Array Value → State → Prop) (Qc : Array Value → State → Outcome → State → Prop) (mc ms : Nat) (free : Addr → Prop) : Prop :=
  MetFree l y (headSpec ws rm) Pc (fun _ _ _ _ _ => True) (fun a st o t => Qc a st o t ∧ ∃ L, tx_End st t L mc ms ∧ ∀ q ∈ L, free q.base)
def tx_MQ (below : List Frame) (Qc : Array Value → State → Outcome → State → Prop) (a : Array Value) (s : State) (mc ms : Nat) (free : Addr → Prop) : State → Prop := fun t =>
  ∃ o, t.status = .running ∧ Ended t below o ∧ Qc a s o t ∧ ∃ L, tx_End s t L mc ms ∧ ∀ q ∈ L, free q.base
theorem tx_ret {g : JFrame} (k : W p l e R s m args below meth c H locs cells slots (MQ below Qc args s mc ms free) g) : W p l e R s m args below meth c H locs cells slots (tx_MQ below Qc args s mc ms free) g := fun T hT X => by
  obtain ⟨t, a1, o, b1, b2, b3, L, ⟨-, c1, c2⟩, d⟩ := k T hT X
  exact ⟨t, a1, o, b1, b2, b3, L, ⟨c1, c2⟩, d⟩
theorem tx_ofW (hy : plainName y.cls = true) (hw : ws = Cond.code y cc maxL ret :: ws')
    (body : ∀ p e s m args below meth c s₁, BodyLoose p l y (headSpec ws rm) cc maxL ret e s m args below meth c s₁ → c.maxLocals = maxL → Pc args s →
      W p l e (headSpec ws rm).room s m args below meth c s.heap [] 0 0 (tx_MQ below Qc args s mc ms free) (entryFrame m args maxL)) : tx_Met l y ws rm Pc Qc mc ms free := by
  refine MetFree.of_bodyS (code := cc) (maxLocals := maxL) (ret := ret) hy ?_ ?_
  · intro args s m h hn
    obtain ⟨meth, c, h1, h2, h3, h4, h5, h6, -, -⟩ := Cond.code_spec hn (atoms_spec (ws := ws) h _ (by rw [hw]; exact List.mem_cons_self))
    exact ⟨meth, c, h1, h2, h3, h4, h5, h6⟩
  · intro p e s m args below meth c s₁ B hml hP _
    have hh0 : s₁.heap = s.heap := by rw [B.state]; rfl
    obtain ⟨t, a1, o, b1, b2, b3⟩ := body p e s m args below meth c s₁ B hml hP s₁ hh0 (Stand.of_body B)
    exact ⟨t, o, a1, b1, b2, ⟨b3.1, b3.2⟩⟩
theorem tx_toMet (h : tx_Met l y ws rm Pc Qc mc ms free) (hr : ∀ a st o t, Qc a st o t → ∃ v, o = .returned v) : Met l y ws rm Pc Qc mc ms free := by
  intro p e ha hc hk s m args below hf happ hP hK
  obtain ⟨n, o, h1, h2, h3, h4, L, ⟨h5, h6⟩, h7⟩ := h p e ha hc hk s m args below hf happ hP hK
  exact ⟨n, o, h1, h2, h3, h4, L, ⟨hr _ _ _ _ h4, h5, h6⟩, h7⟩
/-- a callee that throws: the call leaves the note over the caller's frame -/
theorem tx_thr {T : State} (X : Stand p l e R s m args below meth c T locs cells slots) (hM : tx_Met l y ws rm Pc Qc mc ms free) (hbl : FrameBlind Pc) (hrc : rm.cells = mc) (hrs : rm.slots = ms) (hfr : rm.frames + 1 ≤ R.frames) (hlo : 8 + (maxL + 11) + rm.locals ≤ R.locals)
    (hws : ∀ w ∈ ws, ∀ (a' : Array Value) (U : State), s.WarmedH U.vm → w.before a' U = true) (hcw : Cond.code y bytes maxL ret ∈ ws) (hini : (Cond.initialized y.cls).before args s = true)
    (hq : ∀ a st o t, Qc a st o t → ∃ q, o = .threw q)
    {g : JFrame} (hg : g.method = m) (hsize : g.locals.size = c.maxLocals) {ig : Instr} {len : Nat} (hdg : decode c.code g.pc = .ok (ig, len)) (hW : 2 * g.monitorRoom + (g.stack.map fun v => v.category).sum ≤ 8) {mk : MethodId} (hn : T.methodNamed? y = some mk)
    (hc : cells + mc ≤ R.cells) (hs : slots + ms ≤ R.slots) {a : Array Value} (hP : Pc a T) :
    ∃ (q : Addr) (t T' : State) (L : List Loc), Stand p l e R s m args below meth c T' (locs ++ L) (cells + mc) (slots + ms) ∧ T'.heap = t.heap ∧ T'.vm = t.vm ∧ (∀ z ∈ L, free z.base) ∧ Qc a (T.calling g mk a) (.threw q) t ∧
      Steps p.tables e below (doInvoke e (T.setTop g) [] mk a).1 ((T'.setTop g).pushFrame (.throwing q)) := by
  have h1 : (headSpec ws rm).pre.before a T = true := atoms_intro fun w hw => hws w hw _ _ X.warmed
  have h2 : (Cond.code y bytes maxL ret).before a T = true := hws _ hcw _ _ X.warmed
  have h3 : (Cond.initialized y.cls).before a T = true := word_at X.warmed (Or.inl (by first | rfl | simp [Cond.onTables, Cond.keeps, Cond.steady])) hini
  obtain ⟨methY, cY, hmY, hcY, -, hlY, -, -, -, -⟩ := Cond.code_spec hn h2
  obtain ⟨kY, hkY, -⟩ := className_of_methodNamed hn
  have hinitY : kY.init = .initialized := Cond.initialized_spec (findClass_of_methodNamed hn) hkY h3
  have h : At T g.method c below := by rw [hg]; exact X.here
  have hfr' : (headSpec ws rm).room.frames + 1 ≤ R.frames := hfr
  have hlo' : 8 + (maxL + 11) + (headSpec ws rm).room.locals ≤ R.locals := hlo
  have hc' : cells + (headSpec ws rm).room.cells ≤ R.cells := by rw [show (headSpec ws rm).room.cells = mc from hrc]; exact hc
  have hs' : slots + (headSpec ws rm).room.slots ≤ R.slots := by rw [show (headSpec ws rm).room.slots = ms from hrs]; exact hs
  have happ : (headSpec ws rm).appliesLoose y e.platform (T.calling g mk a) = true :=
    Spec.appliesLoose_calling (g := g) h hdg hn hkY hinitY
      (X.room_calling (g := g) (R' := (headSpec ws rm).room) hsize hmY hcY hfr' (by rw [hlY]; omega) hc' hs') h1
  obtain ⟨mid, hmid⟩ := h.above
  have hfrm : (T.setTop g).frames = (.java g :: mid) ++ below := by rw [State.frames_setTop' g h.top, hmid]; rfl
  obtain ⟨o, s₂, hsteps, -, hend, hq1, L, ⟨hW₂, hsm⟩, hL⟩ := Steps.callFree hM p X.admits X.cas X.clock (acts := []) hfrm happ (hbl _ _ _ _ hP) trivial
  have hq2 : Qc a (T.calling g mk a) o s₂ := hq1
  obtain ⟨q, rfl⟩ := hq _ _ _ _ hq2
  obtain ⟨e2, q2, q3, q4, q5, q6⟩ := id hsm
  have e3 : s₂ = ({ (T.calling g mk a).setFrames s₂.frames with heap := s₂.heap, slotsUsed := s₂.slotsUsed } : State).setVm s₂.vm := by
    have : s₂ = ({ s₂ with vm := (T.calling g mk a).vm } : State).setVm s₂.vm := rfl
    have e2' : ({ s₂ with vm := (T.calling g mk a).vm } : State) = { (T.calling g mk a).setFrames s₂.frames with heap := s₂.heap, slotsUsed := s₂.slotsUsed } := e2
    rw [e2'] at this
    exact this
  rw [State.frames_setTop' g h.top] at hend
  have hf₂ : s₂.frames = .throwing q :: .java g :: T.frames.tail := hend
  have hW' : T.WarmedH s₂.vm := hW₂
  obtain ⟨g₀, hg0⟩ := Option.isSome_iff_exists.mp h.top
  obtain ⟨r, hr⟩ := State.topJava?_eq_some.mp hg0
  have hs₂ : s₂ = ((({ T with heap := s₂.heap, slotsUsed := s₂.slotsUsed } : State).setVm s₂.vm).setTop g).pushFrame (.throwing q) := by
    have hr' : (({ T with heap := s₂.heap, slotsUsed := s₂.slotsUsed } : State).setVm s₂.vm).frames = .java g₀ :: r := hr
    refine e3.trans ?_
    rw [hf₂, State.calling_eq h.top, State.setFrames_setFrames, State.pushFrame, State.frames_setTop _ hr', State.setTop_of_frames _ hr', State.setFrames_setFrames, hr]
    rfl
  have hsame : T.sameButNew ({ T with heap := s₂.heap, slotsUsed := s₂.slotsUsed } : State) L mc ms := by
    refine ⟨?_, q2, q3, q4, q5, q6⟩
    obtain ⟨t, ht, -⟩ := State.frames_cons hr
    show ({ T with heap := s₂.heap, slotsUsed := s₂.slotsUsed } : State) = { T.setFrames T.frames with heap := s₂.heap, slotsUsed := s₂.slotsUsed }
    rw [State.setFrames_self ht]
  subst hg
  refine ⟨q, s₂, (({ T with heap := s₂.heap, slotsUsed := s₂.slotsUsed } : State).setVm s₂.vm), L,
    ⟨X.admits, X.cas, X.clock, X.frames, X.room, X.hears, X.method, X.code, (X.here.setHeapUsed s₂.heap s₂.slotsUsed).setVm hW'.alike, X.tail, State.WarmedH.trans X.warmed hW', X.limits, X.bytes, X.same.trans (hsame.setVm s.vm)⟩, rfl, rfl, hL, hq2, ?_⟩
  rw [← hs₂]
  exact hsteps
/-- an exception that nobody here catches: the method throws it on -/
theorem tx_leave {T : State} (X : Stand p l e R s m args below meth c T locs cells slots) {q : Addr} {g : JFrame} (hg : g.method = m) (hlocked : g.locked = none) (hent : g.entered = []) (hout : ∀ x ∈ c.exceptionTable.toList, covers x g.pc = false) (hlocks : meth.locks = false)
    (hq : ∀ t : State, t.heap = T.heap → t.vm = T.vm → Qc args s (.threw q) t) (hf : ∀ z ∈ locs, free z.base) :
    ∃ t, Steps p.tables e below ((T.setTop g).pushFrame (.throwing q)) t ∧ tx_MQ below Qc args s cells slots free t := by
  obtain ⟨h1, h2, h3, h4, h5⟩ := X.leaveThrown q hg hlocked hent hout hlocks
  exact ⟨_, h1, .threw q, h2, h3, hq _ rfl rfl, locs, ⟨h4, h5⟩, hf⟩
end TXA
end
section
section TXB
variable {p : Program} {l : Launch} {e : Env} {R : Room} {s : State} {m : MethodId} {args : Array Value} {below : List Frame} {meth : Method} {c : Code} {H : Heap} {locs : List Loc} {cells slots : Nat} {Q : State → Prop}
variable {y : MethodName} {ws ws' : List Cond} {rm : Room} {Pc : Array Value → State → Prop} {Qc Qd : Array Value → State → Outcome → State → Prop} {mc ms n : Nat} {free free' : Addr → Prop} {cc bytes : ByteArray} {maxL nL index : Nat} {ret : Option FieldType} {Ts : List Cond} {own C : String} {b : Addr} {As rest : List Value} {g : JFrame}
/-- a virtual call whose callee throws, in a method that catches nothing there -/
theorem tx_Vout (S : CallFix p m c cc nL s args Ts own) (hM : tx_Met l y ws rm Pc Qc mc ms free) (cw : CallW R s args own C index y bytes maxL ret ws rm mc ms n) (hp : PreV s H C b Pc As) (hq : ∀ a st o t, Qc a st o t → ∃ q, o = .threw q)
    (hg : g.method = m) (hn : As.length = n) (hsize : g.locals.size = nL) (hstack : g.stack = As.reverse ++ .ref b :: rest) (hlk : g.locked = none) (hent : g.entered = []) (hW : 2 * g.monitorRoom + (rest.map fun v => v.category).sum ≤ 8) (hdg : decode cc g.pc = .ok (.invokevirtual index, 3)) (hf : cells + mc ≤ R.cells ∧ slots + ms ≤ R.slots)
    (hout : ∀ x ∈ c.exceptionTable.toList, covers x g.pc = false) (hlocks : meth.locks = false)
    (kq : ∀ (q : Addr) (st t u : State), st.heap = H → Qc (Value.ref b :: As).toArray st (.threw q) t → u.heap = t.heap → u.vm = t.vm → Qd args s (.threw q) u) (hf1 : ∀ z ∈ locs, free' z.base) (hf2 : ∀ z, free z → free' z) :
    W p l e R s m args below meth c H locs cells slots (tx_MQ below Qd args s (cells + mc) (slots + ms) free') g := by
  intro T hT X
  obtain ⟨⟨hrc, hrs, hfr, hlo, hws, hcw, hcode, hini, hy, hlen, hl⟩, hin, hse⟩ := cw
  obtain ⟨hx, hb, hml, ho, -⟩ := S
  obtain ⟨hbl, ⟨cellB, hcB, hoB, hclB⟩, hPc⟩ := hp
  subst hb
  obtain ⟨mk, methM, hnamed, hmethM, hstM, habM⟩ := Cond.instanceMethod_spec hin
  obtain ⟨methM', cM, hmethM', -, -, -, -, -, -, hsigM⟩ := Cond.code_spec hnamed hcode
  cases hmethM.symm.trans hmethM'
  obtain ⟨c2, r2, m2, q1, q2, q3, q4, kP, hkP, hkPi⟩ := Cond.selects_spec hse
  cases hclB.symm.trans q1
  cases (State.methodFound?_of_named hnamed hy).symm.trans q2
  cases hnamed.symm.trans q3
  have hselP : selectMethod e.platform s.vm cellB.cls mk = .method mk := by rw [Launch.admits_selectMethod X.admits]; exact q4
  obtain ⟨vm₁, X₁, hstep₁⟩ := X.invokevirtual hx ho hl hnamed hmethM hstM hkP hkPi hy (a := b) (cell := cellB) (by rw [hT]; exact hcB)
    (fun z h => by rw [h] at hoB; cases hoB) hselP hmethM habM hkP hkPi (g := g) hg (argsL := As) (rest := rest) (hn.trans (hlen _ hsigM)) hstack hdg
  obtain ⟨q, t, T', L, X', e1, e2, hL, hQ, st⟩ := tx_thr X₁ hM hbl hrc hrs hfr hlo hws hcw hini hq (g := { g with stack := rest }) hg (hsize.trans hml.symm) hdg hW (X₁.named hnamed) hf.1 hf.2 (hPc (T.setVm vm₁) hT X₁.warmed)
  obtain ⟨t2, s1, z1⟩ := tx_leave (Qc := Qd) (free := free') X' (q := q) (g := { g with stack := rest }) hg hlk hent hout hlocks (fun u hu hv => by refine kq q _ t u ?_ hQ (hu.trans e1) (hv.trans e2); exact hT) (fun z hz => (List.mem_append.mp hz).elim (hf1 z) (fun h => hf2 _ (hL z h)))
  exact ⟨t2, hstep₁ _ fun acts => by rw [doInvoke_state]; exact st.trans s1, z1⟩
/-- a static call whose callee throws -/
theorem tx_Sout (S : CallFix p m c cc nL s args Ts own) (hM : tx_Met l y ws rm Pc Qc mc ms free) (cw : CallB R s args own index y bytes maxL ret ws rm mc ms n ∧ (Cond.static y).before args s = true) (hp : PreS s H Pc As) (hq : ∀ a st o t, Qc a st o t → ∃ q, o = .threw q)
    (hg : g.method = m) (hn : As.length = n) (hsize : g.locals.size = nL) (hstack : g.stack = As.reverse ++ rest) (hlk : g.locked = none) (hent : g.entered = []) (hW : 2 * g.monitorRoom + (rest.map fun v => v.category).sum ≤ 8) (hdg : decode cc g.pc = .ok (.invokestatic index, 3)) (hf : cells + mc ≤ R.cells ∧ slots + ms ≤ R.slots)
    (hout : ∀ x ∈ c.exceptionTable.toList, covers x g.pc = false) (hlocks : meth.locks = false)
    (kq : ∀ (q : Addr) (st t u : State), st.heap = H → Qc As.toArray st (.threw q) t → u.heap = t.heap → u.vm = t.vm → Qd args s (.threw q) u) (hf1 : ∀ z ∈ locs, free' z.base) (hf2 : ∀ z, free z → free' z) :
    W p l e R s m args below meth c H locs cells slots (tx_MQ below Qd args s (cells + mc) (slots + ms) free') g := by
  intro T hT X
  obtain ⟨⟨hrc, hrs, hfr, hlo, hws, hcw, hcode, hini, hy, hlen, hl⟩, hstt⟩ := cw
  obtain ⟨hx, hb, hml, ho, -⟩ := S
  obtain ⟨hbl, hPc⟩ := hp
  subst hb
  obtain ⟨mk, hnamed⟩ := Cond.code_named hcode
  obtain ⟨methM, cM, hmethM, -, -, -, -, -, -, hsigM⟩ := Cond.code_spec hnamed hcode
  have hstatic : methM.isStatic = true := Cond.static_spec hnamed hmethM hstt
  obtain ⟨kP, hkP, -⟩ := className_of_methodNamed hnamed
  have hinitP : kP.init = .initialized := Cond.initialized_spec (findClass_of_methodNamed hnamed) hkP hini
  obtain ⟨vm₁, X₁, hstep₁⟩ := X.invokestatic hx ho hl hnamed hmethM hstatic hkP hinitP hy (g := g) hg (argsL := As) (rest := rest) (hn.trans (hlen _ hsigM)) hstack hdg
  obtain ⟨q, t, T', L, X', e1, e2, hL, hQ, st⟩ := tx_thr X₁ hM hbl hrc hrs hfr hlo hws hcw hini hq (g := { g with stack := rest }) hg (hsize.trans hml.symm) hdg hW (X₁.named hnamed) hf.1 hf.2 (hPc (T.setVm vm₁) hT X₁.warmed)
  obtain ⟨t2, s1, z1⟩ := tx_leave (Qc := Qd) (free := free') X' (q := q) (g := { g with stack := rest }) hg hlk hent hout hlocks (fun u hu hv => by refine kq q _ t u ?_ hQ (hu.trans e1) (hv.trans e2); exact hT) (fun z hz => (List.mem_append.mp hz).elim (hf1 z) (fun h => hf2 _ (hL z h)))
  exact ⟨t2, hstep₁ _ fun acts => by rw [doInvoke_state]; exact st.trans s1, z1⟩
theorem tx_same {U : State} {k z : Nat} (h : s.sameButNew ({ U with vm := s.vm } : State) [] k z) : s.heap.size ≤ U.heap.size ∧ ∀ q : Nat, q < s.heap.size → U.heap[q]? = s.heap[q]? := by
  obtain ⟨-, h2, -, -, -, h6⟩ := h
  refine ⟨h2, fun q hq => ?_⟩
  obtain ⟨d, e1, e2, -, e4⟩ := h6 q _ (Array.getElem?_eq_getElem hq)
  have e5 : U.heap[q]? = some d := e1
  have hs : d.slots = (s.heap[q]).slots := Array.ext_getElem? fun i => e4 i (fun hm => nomatch hm)
  rw [hs] at e2
  rw [e5, Array.getElem?_eq_getElem hq, e2]
/-- throw new E("a text") where nothing has been written yet and nothing is caught: new, dup, ldc, invokespecial, athrow -/
theorem tx_new {pc ik is ic : Nat} {ls : Array Slot} (hx : p.tables.exec = Jvm.exec) (hb : c.code = cc) (hfl : l.flags = pinnedFlags ++ [noTraceFlag]) {cls Y text : String} {r : List String} {ix : Nat} {rx : ByteArray} (hown : s.vm.findClass own = some m.cls)
    (hclk : (Cond.classLink own ik cls).before args s = true) (hini : (Cond.initialized cls).before args s = true) (hat : ∀ a ∈ tx_atoms own ic cls Y ix rx r, a.before args s = true) (hcls : Bundle.fit cls = true) (hY : Bundle.fit Y = true) (hnames : ∀ z ∈ r, Bundle.fit z = true) (r0 : decode rx 0 = .ok (.aload_n 0, 1)) (r1 : decode rx 1 = .ok (.aload_n 1, 1)) (r2 : decode rx 2 = .ok (.invokespecial ix, 3)) (r5 : decode rx 5 = .ok (.return_, 1)) (hconst : (Cond.stringRef own is text).before args s = true)
    (hml : c.maxLocals = ls.size)
    (d0 : decode cc pc = .ok (.new ik, 3)) (d3 : decode cc (pc + 3) = .ok (.dup, 1)) (d4 : decode cc (pc + 4) = .ok (.ldc is, 2)) (d6 : decode cc (pc + 6) = .ok (.invokespecial ic, 3)) (d9 : decode cc (pc + 9) = .ok (.athrow, 1))
    (hout : ∀ x ∈ c.exceptionTable.toList, covers x (pc + 9) = false) (hlocks : meth.locks = false) (hcells : cells + 1 ≤ R.cells) (hslots : slots + 6 ≤ R.slots) (hRf : r.length + 4 < R.frames) (hRl : (rest.map fun v => v.category).sum + (13 * (r.length + 2) + 43) ≤ R.locals)
    (kq : ∀ (t : State) (ce : Cell), t.heap[s.heap.size]? = some ce → ce.vm = .none → s.vm.findClass cls = some ce.cls → s.vm.Alike t.vm → s.heap.size ≤ t.heap.size → (∀ i : Nat, i < s.heap.size → t.heap[i]? = s.heap[i]?) → Qc args s (.threw s.heap.size) t) :
    W p l e R s m args below meth c s.heap [] cells slots (tx_MQ below Qc args s (cells + 1) (slots + 6) free) (F0 m pc ls rest) := by
  intro T hT X
  subst hb
  have htr : e.platform.stackTraces = false := Launch.traces_off hfl X.admits
  obtain ⟨vm₁, cX, kX, hfX, hkX, -, -, X₁, st1⟩ := X.newCold hx (own := own) (C := cls) (index := ik) (n := 6) hown hclk (hat (.instantiable cls 6) (by simp [tx_atoms])) hini (g := F0 m pc ls rest) rfl d0 hcells hslots
  generalize hT1 : (T.setVm vm₁).pushCell { cls := cX, slots := kX.instanceTypes.map defaultValue, vm := .none } = T1 at X₁ st1
  have hcellA : T1.heap[T.heap.size]? = some (freshCell cX kX) := by rw [← hT1]; exact State.heap_pushCell_size _ _
  obtain ⟨-, -, -, sa, -, -, -, -, -, hev⟩ := Cond.stringRef_spec hown hconst
  obtain ⟨U, hsteps, hrun, hend, hW, hsame, ce, hce, Kv, Kc⟩ := tx_ctor X₁ hx htr (own := own) (cls := cls) (ic := ic) hown hcls hY hnames r0 r1 r2 r5 hat (fun x hx => nomatch hx) hfX hkX hcellA (by rw [hT]; exact Nat.le_refl _) (msg := .ref sa) rfl
    (g := F0 m (pc + 6) ls (.ref sa :: .ref T.heap.size :: .ref T.heap.size :: rest)) rfl hml.symm rfl rfl (rest := rest) rfl d6 d9 hout hRf (by
      show 2 * 0 + (1 + (rest.map fun v => v.category).sum) + (13 * (r.length + 2) + 42) ≤ R.locals
      omega) hlocks
  have hz : T.heap.size = s.heap.size := by rw [hT]
  rw [hz] at hend hce
  obtain ⟨f1, f2⟩ := tx_same hsame
  refine ⟨U, ?_, .threw s.heap.size, hrun, hend, kq U ce hce Kv Kc hW.alike f1 f2, [], ⟨hW, hsame⟩, fun z h => nomatch h⟩
  refine st1 _ ?_
  show Steps p.tables e below (T1.setTop (F0 m (pc + 3) ls (.ref T.heap.size :: rest))) _
  jvm_step X₁.here [X₁.here.top, hx, d3, Value.category]
  exact X₁.ldcString hx (own := own) (text := text) (index := is) (a := sa) hown hconst hev (g := F0 m (pc + 4) ls (.ref T.heap.size :: .ref T.heap.size :: rest)) rfl d4 _ hsteps
end TXB
end
section
/-! what a throw asks of the heap: two statics of Throwable, below the law's own cells -/
def exN (k : Nat) : String := if k = 1 then "java/util/NoSuchElementException" else if k = 2 then "java/lang/IllegalArgumentException" else "java/lang/IllegalStateException"
def cE (k : Nat) : Nat := if k = 0 then 0 else 1
def TL (b0 : Nat) (n d : String) (U : State) (H : Heap) : Prop := ∃ (c : ClassId) (k : Class) (i : Nat) (f : Field) (a : Nat) (cell : Cell) (v : Value), U.vm.findClass Bundle.tN = some c ∧ U.fieldFound? Bundle.tN n d = some (c, k, i, f) ∧ f.isStatic = true ∧ k.statics = some a ∧ k.staticTypes[f.slot]? = some f.type ∧ a < b0 ∧ H[a]? = some cell ∧ cell.vm.isStatics = true ∧ cell.cls = c ∧ f.slot < cell.slots.size ∧ cell.slots[f.slot]? = some v ∧ v.isRef = true
theorem TL.move {b0 : Nat} {n d : String} {u U : State} {H H1 : Heap} (h : TL b0 n d u H) (hvm : u.vm.Alike U.vm) (hq : ∀ a : Nat, a < b0 → a < H.size → H1[a]? = H[a]?) : TL b0 n d U H1 := by
  obtain ⟨c, k, i, f, a, cell, v, h1, h2, h3, h4, h5, h6, h7, h8⟩ := h
  obtain ⟨k', hi', he⟩ := State.fieldFound?_setVm hvm h2
  exact ⟨c, k', i, f, a, cell, v, by rw [hvm.findClass]; exact h1, hi', h3, by rw [he]; exact h4, by rw [he]; exact h5, h6, by rw [hq a h6 (Array.getElem?_eq_some_iff.mp h7).1]; exact h7, h8⟩
theorem TL.lays {b0 : Nat} {n d : String} {U : State} {args : Array Value} (h : TL b0 n d U U.heap) : (Cond.laysStatic Bundle.tN n d).before args U = true := by
  obtain ⟨c, k, i, f, a, cell, v, h1, h2, h3, h4, h5, h6, h7, h8, h9, h10, h11⟩ := h
  simp [Cond.before, Cond.holds, Cond.value, h1, h2, h3, h4, h5, h7, h8, h9, h10]
theorem TL.isRef {b0 : Nat} {n d : String} {U : State} {args : Array Value} (h : TL b0 n d U U.heap) : (Cond.isRef (.static Bundle.tN n d)).before args U = true := by
  obtain ⟨c, k, i, f, a, cell, v, h1, h2, h3, h4, h5, h6, h7, h8, h9, h10, h11, h12⟩ := h
  have hev : (Term.static Bundle.tN n d).eval args U none [] U = some v := by
    simp [Term.eval, State.fieldNamed?, h2, h3, h4, h7, h8, h11]
  cases v <;> simp [Value.isRef] at h12 <;> simp [Cond.before, Cond.holds, Cond.value, hev]
theorem TL.of {b0 : Nat} {n d : String} {s : State} {args : Array Value} (hl : (Cond.laysStatic Bundle.tN n d).before args s = true) (hr : (Cond.isRef (.static Bundle.tN n d)).before args s = true) (hb : s.heap.size ≤ b0) : TL b0 n d s s.heap := by
  obtain ⟨c, k, i, f, a, cell, h1, h2, h3, h4, h5, h6, h7, h8, h9⟩ := Cond.laysStatic_spec hl
  obtain ⟨v, hv, hvr⟩ := Cond.isRef_spec hr
  obtain ⟨-, a', cell', g1, g2, -, g4⟩ := Term.static_spec h2 hv
  cases h4.symm.trans g1
  cases h5.symm.trans g2
  exact ⟨c, k, i, f, a, cell, v, h1, h2, h3, h4, h9, Nat.lt_of_lt_of_le (Array.getElem?_eq_some_iff.mp h5).1 hb, h5, h6, h7, h8, g4, hvr⟩
end
section
def DCl : List MethodName := [⟨"java/lang/RuntimeException", "<init>", "()V"⟩, ⟨"java/lang/RuntimeException", "<init>", "(Ljava/lang/String;)V"⟩, ⟨"java/lang/Exception", "<init>", "()V"⟩, ⟨"java/lang/Exception", "<init>", "(Ljava/lang/String;)V"⟩, ⟨"java/lang/Throwable", "<init>", "()V"⟩, ⟨"java/lang/Throwable", "<init>", "(Ljava/lang/String;)V"⟩]
def CSl : List (String × String) := [("java/util/NoSuchElementException", "java/util/NoSuchElementException"), ("java/lang/IllegalArgumentException", "java/lang/IllegalArgumentException"), ("java/lang/IllegalStateException", "java/lang/IllegalStateException")]
def SRl : List (String × Nat × String) := [("PlaceMoves", 193, "there is none of this number"), ("PlaceMoves", 196, "a value is out of its range"), ("PlaceMoves", 200, "there are as many as there may be"), ("PlaceMoves", 203, "a key is missing"), ("PlaceMoves", 146, "a door joins two places"), ("PlaceMoves", 181, "a quiet time begins at 0 or later and ends no sooner than that"), ("PlaceMoves", 189, "nothing of this number is counted")]
def SRw (q : String × Nat × String) (U : State) : Prop := ∃ a : Nat, vk_R q.1 q.2.1 q.2.2 a U
/-- what a throw asks, as it is handed to every callee that may throw -/
def TE (b0 : Nat) (U : State) (H : Heap) : Prop := TL b0 "UNASSIGNED_STACK" Bundle.steD U H ∧ TL b0 "SUPPRESSED_SENTINEL" Bundle.listD U H ∧ (∀ q ∈ DCl, va_Nw (.declares q) U) ∧ (∀ q ∈ CSl, va_Nw (.castable q.1 q.2) U) ∧ ∀ q ∈ SRl, SRw q U
theorem TE.warm {b0 : Nat} {s U : State} {H : Heap} (h : TE b0 s H) (hW : s.WarmedH U.vm) : TE b0 U H :=
  ⟨h.1.move hW.alike (fun _ _ _ => rfl), h.2.1.move hW.alike (fun _ _ _ => rfl), fun q hq => va_Nw.warmD hW (h.2.2.1 q hq), fun q hq => va_Nw.warmC hW (h.2.2.2.1 q hq), fun q hq => (h.2.2.2.2 q hq).imp fun _ z => vk_R.warm hW z⟩
theorem TE.kept {b0 : Nat} {s : State} {H H1 : Heap} (h : TE b0 s H) (hq : ∀ a : Nat, a < b0 → a < H.size → H1[a]? = H[a]?) : TE b0 s H1 :=
  ⟨h.1.move (Vm.Alike.refl _) hq, h.2.1.move (Vm.Alike.refl _) hq, h.2.2⟩
theorem TE.same {b0 : Nat} {u U : State} {H : Heap} (h : TE b0 u H) (e : u.vm = U.vm) : TE b0 U H :=
  ⟨h.1.move (by rw [e]; exact Vm.Alike.refl _) (fun _ _ _ => rfl), h.2.1.move (by rw [e]; exact Vm.Alike.refl _) (fun _ _ _ => rfl), fun q hq => va_Nw.same rfl e (h.2.2.1 q hq), fun q hq => va_Nw.same rfl e (h.2.2.2.1 q hq), fun q hq => (h.2.2.2.2 q hq).imp fun _ z => vk_R.same e.symm z⟩
def SPl : List Cond := DCl.map Cond.declares ++ CSl.map (fun q => Cond.castable q.1 q.2) ++ [.laysStatic Bundle.tN "UNASSIGNED_STACK" Bundle.steD, .laysStatic Bundle.tN "SUPPRESSED_SENTINEL" Bundle.listD, .isRef (.static Bundle.tN "UNASSIGNED_STACK" Bundle.steD), .isRef (.static Bundle.tN "SUPPRESSED_SENTINEL" Bundle.listD)]
theorem TE.sp {b0 : Nat} {s : State} {args : Array Value} (h : TE b0 s s.heap) : ∀ w ∈ SPl, w.before args s = true := by
  intro w hw
  unfold SPl at hw
  rcases List.mem_append.mp hw with hw | hw
  · rcases List.mem_append.mp hw with hw | hw
    · obtain ⟨q, hq, rfl⟩ := List.mem_map.mp hw
      exact va_Nw.use rfl (h.2.2.1 q hq)
    · obtain ⟨q, hq, rfl⟩ := List.mem_map.mp hw
      exact va_Nw.use rfl (h.2.2.2.1 q hq)
  · simp only [List.mem_cons, List.not_mem_nil, or_false] at hw
    rcases hw with rfl | rfl | rfl | rfl
    · exact h.1.lays
    · exact h.2.1.lays
    · exact h.1.isRef
    · exact h.2.1.isRef
theorem at_all {L : List Cond} {args : Array Value} {s : State} (h : L.all (fun a => (decide (a ∈ lw_tbl) && goodWord a) || decide (a ∈ SPl)) = true) (hts : ∀ w ∈ WG, w.before args s = true) (hsp : ∀ w ∈ SPl, w.before args s = true) : ∀ a ∈ L, a.before args s = true := by
  intro a ha
  have h1 := List.all_eq_true.mp h a ha
  simp only [Bool.or_eq_true, Bool.and_eq_true, decide_eq_true_eq] at h1
  rcases h1 with ⟨h2, h3⟩ | h2
  · exact hts a (List.mem_filter.mpr ⟨h2, h3⟩)
  · exact hsp a h2
end
section
set_option maxRecDepth 100000 in
theorem at_PM_148 : (tx_atoms "PlaceMoves" 148 "java/lang/IllegalArgumentException" "java/lang/RuntimeException" 7 prog_11_method_2_code ["java/lang/Exception"]).all (fun a => (decide (a ∈ lw_tbl) && goodWord a) || decide (a ∈ SPl)) = true := by decide +kernel
set_option maxRecDepth 100000 in
theorem at_PM_195 : (tx_atoms "PlaceMoves" 195 "java/util/NoSuchElementException" "java/lang/RuntimeException" 13 prog_17_method_4_code ["java/lang/Exception"]).all (fun a => (decide (a ∈ lw_tbl) && goodWord a) || decide (a ∈ SPl)) = true := by decide +kernel
set_option maxRecDepth 100000 in
theorem at_PM_202 : (tx_atoms "PlaceMoves" 202 "java/lang/IllegalStateException" "java/lang/RuntimeException" 7 prog_12_method_2_code ["java/lang/Exception"]).all (fun a => (decide (a ∈ lw_tbl) && goodWord a) || decide (a ∈ SPl)) = true := by decide +kernel
end
section
/-! contracts of methods that throw -/
def rmE (f l k : Nat) : Room := { frames := f, cells := cE k, slots := 6 * cE k, locals := l }
def Thr (k : Nat) (H : Heap) (o : Outcome) (t : State) : Prop := ∃ (q : Addr) (ce : Cell), o = .threw q ∧ t.heap[q]? = some ce ∧ ce.vm = .none ∧ t.vm.findClass (exN k) = some ce.cls ∧ H.size ≤ q ∧ H.size ≤ t.heap.size ∧ ∀ i : Nat, i < H.size → t.heap[i]? = H[i]?
theorem Thr.shift {k : Nat} {H : Heap} {o : Outcome} {t u : State} (h : Thr k H o t) (hu : u.heap = t.heap) (hv : u.vm = t.vm) : Thr k H o u := by
  obtain ⟨q, ce, h1, h2, h3, h4, h5, h6, h7⟩ := h
  exact ⟨q, ce, h1, by rw [hu]; exact h2, h3, by rw [hv]; exact h4, h5, by rw [hu]; exact h6, fun i hi => by rw [hu]; exact h7 i hi⟩
def QTi (out : Nat × Int32) : Array Value → State → Outcome → State → Prop := fun _ st o t => (out.1 = 0 → o = .returned (some (.int out.2)) ∧ t.heap = st.heap) ∧ (out.1 ≠ 0 → Thr out.1 st.heap o t)
def QTv (out : Nat) : Array Value → State → Outcome → State → Prop := fun _ st o t => (out = 0 → o = .returned none ∧ t.heap = st.heap) ∧ (out ≠ 0 → Thr out st.heap o t)
def PcT (b0 : Nat) (G : va_G) (ad : Nat → Nat) (cI cZ : ClassId) (σ : Sg) (av : List Value) : Array Value → State → Prop := va_Pc av (fun U => va_P G clX (wX ad cI cZ σ) U.heap ∧ KX G cI cZ U ∧ TE b0 U U.heap)
theorem PcT.blind {b0 : Nat} {G : va_G} {ad : Nat → Nat} {cI cZ : ClassId} {σ : Sg} {av : List Value} : FrameBlind (PcT b0 G ad cI cZ σ av) := fun _ _ _ _ h => ⟨h.1, h.2.1, h.2.2.1.same rfl, h.2.2.2.same rfl⟩
theorem qt_i {out : Nat × Int32} {v : Int32} {a : Array Value} {s t : State} (h : some ((0 : Nat), v) = some out) (ht : t.heap = s.heap) : QTi out a s (.returned (some (.int v))) t := by
  cases h
  exact ⟨fun _ => ⟨rfl, ht⟩, fun z => absurd rfl z⟩
theorem qt_v {out : Nat} {a : Array Value} {s t : State} (h : some (0 : Nat) = some out) (ht : t.heap = s.heap) : QTv out a s (.returned none) t := by
  cases h
  exact ⟨fun _ => ⟨rfl, ht⟩, fun z => absurd rfl z⟩
theorem qt_xi {out : Nat × Int32} {k : Nat} {v : Int32} {a : Array Value} {s t : State} {o : Outcome} (h : some (k, v) = some out) (hk : k ≠ 0) (ht : Thr k s.heap o t) : QTi out a s o t := by
  cases h
  exact ⟨fun z => absurd z hk, fun _ => ht⟩
theorem qt_xv {out k : Nat} {a : Array Value} {s t : State} {o : Outcome} (h : some k = some out) (hk : k ≠ 0) (ht : Thr k s.heap o t) : QTv out a s o t := by
  cases h
  exact ⟨fun z => absurd z hk, fun _ => ht⟩
theorem cE_one {k : Nat} (hk : k ≠ 0) : cE k = 1 := if_neg hk
theorem cE_i {out : Nat × Int32} {k : Nat} {v : Int32} (h : some (k, v) = some out) : 0 + cE k ≤ cE out.1 ∧ 0 + 6 * cE k ≤ 6 * cE out.1 := by
  cases h
  dsimp only
  exact ⟨by omega, by omega⟩
theorem cE_v {out k : Nat} (h : some k = some out) : 0 + cE k ≤ cE out ∧ 0 + 6 * cE k ≤ 6 * cE out := by
  cases h
  exact ⟨by omega, by omega⟩
theorem cE_i1 {out : Nat × Int32} {k : Nat} {v : Int32} (h : some (k, v) = some out) (hk : k ≠ 0) : 0 + 1 ≤ cE out.1 ∧ 0 + 6 ≤ 6 * cE out.1 := by
  cases h
  rw [cE_one hk]
  exact ⟨by omega, by omega⟩
theorem cE_v1 {out k : Nat} (h : some k = some out) (hk : k ≠ 0) : 0 + 1 ≤ cE out ∧ 0 + 6 ≤ 6 * cE out := by
  cases h
  rw [cE_one hk]
  exact ⟨by omega, by omega⟩
section TXD
variable {p : Program} {l : Launch} {e : Env} {R : Room} {s : State} {m : MethodId} {args : Array Value} {below : List Frame} {meth : Method} {c : Code} {H : Heap} {locs : List Loc} {cells slots : Nat} {Q : State → Prop}
variable {Qc : Array Value → State → Outcome → State → Prop} {free : Addr → Prop} {g : JFrame}
theorem tx_leafi {out : Nat × Int32} {v : Int32} (h : some ((0 : Nat), v) = some out) (k : W p l e R s m args below meth c H locs 0 0 (MQ below Qc args s 0 0 free) g) : W p l e R s m args below meth c H locs 0 0 (tx_MQ below Qc args s (cE out.1) (6 * cE out.1) free) g := by
  cases h
  exact tx_ret k
theorem tx_leafv {out : Nat} (h : some (0 : Nat) = some out) (k : W p l e R s m args below meth c H locs 0 0 (MQ below Qc args s 0 0 free) g) : W p l e R s m args below meth c H locs 0 0 (tx_MQ below Qc args s (cE out) (6 * cE out) free) g := by
  cases h
  exact tx_ret k
theorem tx_lni {out : Nat × Int32} {k : Nat} {v : Int32} (h : some (k, v) = some out) (hk : k ≠ 0) (kk : W p l e R s m args below meth c H locs 0 0 (tx_MQ below Qc args s (0 + 1) (0 + 6) free) g) : W p l e R s m args below meth c H locs 0 0 (tx_MQ below Qc args s (cE out.1) (6 * cE out.1) free) g := by
  cases h
  rw [cE_one hk]
  exact kk
theorem tx_lnv {out k : Nat} (h : some k = some out) (hk : k ≠ 0) (kk : W p l e R s m args below meth c H locs 0 0 (tx_MQ below Qc args s (0 + 1) (0 + 6) free) g) : W p l e R s m args below meth c H locs 0 0 (tx_MQ below Qc args s (cE out) (6 * cE out) free) g := by
  cases h
  rw [cE_one hk]
  exact kk
theorem tx_lpi {out : Nat × Int32} {k : Nat} {v : Int32} (h : some (k, v) = some out) (kk : W p l e R s m args below meth c H locs 0 0 (tx_MQ below Qc args s (0 + cE k) (0 + 6 * cE k) free) g) : W p l e R s m args below meth c H locs 0 0 (tx_MQ below Qc args s (cE out.1) (6 * cE out.1) free) g := by
  cases h
  rw [Nat.zero_add, Nat.zero_add] at kk
  exact kk
theorem tx_lpv {out k : Nat} (h : some k = some out) (kk : W p l e R s m args below meth c H locs 0 0 (tx_MQ below Qc args s (0 + cE k) (0 + 6 * cE k) free) g) : W p l e R s m args below meth c H locs 0 0 (tx_MQ below Qc args s (cE out) (6 * cE out) free) g := by
  cases h
  rw [Nat.zero_add, Nat.zero_add] at kk
  exact kk
/-- a call that returned and left the heap -/
theorem tx_call0 {pc : Nat} {ls : Array Slot} {rest st0 : List Value} {Qa : State → Outcome → State → Prop} {v0 : Option Value} (hr : CallRun p l e R s m args below meth c H locs cells slots 0 0 (F0 m pc ls st0) rest Qa (fun _ => False))
    (hq : ∀ st o t, Qa st o t → o = .returned v0 ∧ t.heap = st.heap) (kk : W p l e R s m args below meth c H locs cells slots Q (F0 m (pc + 3) ls (v0.toList ++ rest))) : W p l e R s m args below meth c H locs cells slots Q (F0 m pc ls st0) := by
  intro T hT X
  obtain ⟨v, st₀, t, T', L, h0, X', hL, e1, hqa, st⟩ := hr T hT X
  obtain ⟨hv, hh⟩ := hq _ _ _ hqa
  cases hv
  obtain ⟨t2, a1, b1⟩ := kk T' (by rw [e1, hh, h0]) (Stand.forget X' (fun q h => (hL q h).elim))
  exact ⟨t2, st t2 a1, b1⟩
end TXD
end
section
def f_PM_needKnown (σ : Sg) (x0 : Int32) (x1 : Int32) : Option (Nat) :=
  if x0 < 0 then (some 1) else (if x0 < x1 then (some 0) else (some 1))
def f_PM_needPlace (σ : Sg) (x1 : Int32) : Option (Nat) :=
  (f_PM_needKnown σ x1 (σ 1 0)).bind fun r1 => if r1 = 0 then (some 0) else some r1
def f_PM_needRange (σ : Sg) (x0 : Int32) (x1 : Int32) (x2 : Int32) : Option (Nat) :=
  if x0 < x1 then (some 2) else (if x0 ≤ x2 then (some 0) else (some 2))
def f_PM_needRoom (σ : Sg) (x0 : Int32) (x1 : Int32) : Option (Nat) :=
  if x0 < x1 then (some 0) else (some 3)
def f_PM_needObject (σ : Sg) (x1 : Int32) : Option (Nat) :=
  (f_PM_needKnown σ x1 (σ 2 0)).bind fun r1 => if r1 = 0 then (some 0) else some r1
def f_PM_needPerson (σ : Sg) (x1 : Int32) : Option (Nat) :=
  (f_PM_needKnown σ x1 10).bind fun r1 => if r1 = 0 then (some 0) else some r1
def C_PM_needKeysOf_31 (σ : Sg)  (x2 : Int32) (x3 : Int32) (x4 : Int32) : Option (Nat) :=
  if x4 = 2 then (gd (inB x2 10) <| if (σ 7 (Int32.toNatClampNeg x2)) = 0 then (if ((0 : Int32)) = 0 then (some 3) else (some 0)) else (gd (inB x3 10) <| if (σ 7 (Int32.toNatClampNeg x3)) = 0 then (if ((0 : Int32)) = 0 then (some 3) else (some 0)) else (if x2 = x3 then (if ((0 : Int32)) = 0 then (some 3) else (some 0)) else (if ((1 : Int32)) = 0 then (some 3) else (some 0))))) else (if ((0 : Int32)) = 0 then (some 3) else (some 0))
def f_PM_needKeysOf (σ : Sg) (x1 : Int32) (x2 : Int32) (x3 : Int32) : Option (Nat) :=
  gd (inB x1 20) <| lt1 (σ 15 (Int32.toNatClampNeg x1)) fun y1 => if y1 = 0 then (if ((1 : Int32)) = 0 then (some 3) else (some 0)) else (if y1 = 1 then (gd (inB x2 10) <| if (σ 7 (Int32.toNatClampNeg x2)) = 0 then (C_PM_needKeysOf_31 σ x2 x3 y1) else (if ((1 : Int32)) = 0 then (some 3) else (some 0))) else (C_PM_needKeysOf_31 σ x2 x3 y1))
def f_PM_where (σ : Sg) (x1 : Int32) (x2 : Int32) : Option (Nat × Int32) :=
  (f_PM_needObject σ x1).bind fun r1 => if r1 = 0 then ((f_PM_placeAt σ x1 x2).bind fun r2 => some (0, r2)) else some (r1, 0)
def B_PM_last_12 (σ : Sg)  (k12 : Int32 → Int32 → Int32 → Option (Nat × Int32)) (x1 : Int32) (x2 : Int32) (x3 : Int32) : Option (Nat × Int32) :=
  if 800 < x3 then (some (0, (-1))) else (if x2 < 0 then (some (0, (-1))) else ((f_PM_placeAt σ x1 x2).bind fun r2 => if r2 = ((-1)) then ((f_PM_standsSince σ x1 x2).bind fun r3 => k12 x1 (r3 - 1) (x3 + 1)) else (some (0, r2))))
def L_PM_last_12 (σ : Sg)  : Nat → Int32 → Int32 → Int32 → Option (Nat × Int32) := itr (B_PM_last_12 σ) (fun _ _ _ => none)
def f_PM_last (σ : Sg) (x1 : Int32) : Option (Nat × Int32) :=
  (f_PM_needObject σ x1).bind fun r1 => if r1 = 0 then (L_PM_last_12 σ fuel x1 (σ 0 0) 0) else some (r1, 0)
def f_PM_history (σ : Sg) (x1 : Int32) (x2 : Int32) (x3 : Int32) : Option (Nat × Int32) :=
  (f_PM_needObject σ x1).bind fun r1 => if r1 = 0 then (gd (inB x1 20) <| (f_PM_needKnown σ x2 (σ 17 (Int32.toNatClampNeg x1))).bind fun r2 => if r2 = 0 then ((f_PM_needRange σ x3 0 2).bind fun r3 => if r3 = 0 then ((f_Rows_index σ x1 x2).bind fun r4 => if x3 = 0 then (gd (inB r4 800) <| some (0, σ 18 (Int32.toNatClampNeg r4))) else (if x3 = 1 then (gd (inB r4 800) <| some (0, σ 19 (Int32.toNatClampNeg r4))) else (gd (inB r4 800) <| some (0, σ 20 (Int32.toNatClampNeg r4))))) else some (r3, 0)) else some (r2, 0)) else some (r1, 0)
def f_PM_passes (σ : Sg) (x1 : Int32) (x2 : Int32) : Option (Nat × Int32) :=
  (f_PM_needObject σ x1).bind fun r1 => if r1 = 0 then ((f_PM_needKnown σ x2 (σ 4 0)).bind fun r2 => if r2 = 0 then ((f_PM_fits σ x1 x2).bind fun r3 => gd (isB r3) <| some (0, r3)) else some (r2, 0)) else some (r1, 0)
def f_PM_way (σ : Sg) (x1 : Int32) (x2 : Int32) : Option (Nat × Int32) :=
  (f_PM_needObject σ x1).bind fun r1 => if r1 = 0 then ((f_PM_needPlace σ x2).bind fun r2 => if r2 = 0 then ((f_PM_placeAt σ x1 (σ 0 0)).bind fun r3 => if r3 = ((-1)) then (some (0, (-1))) else ((f_PM_fittingDoors σ x1).bind fun r4 => (f_PM_doorsBetween σ r3 x2 r4).bind fun r5 => some (0, r5))) else some (r2, 0)) else some (r1, 0)
def f_PM_count (σ : Sg) (x1 : Int32) : Option (Nat × Int32) :=
  (if x1 = 0 then (some (0, σ 1 0)) else (if x1 = 1 then (some (0, σ 2 0)) else (if x1 = 2 then (some (0, σ 4 0)) else (if x1 = 3 then (some (0, σ 5 0)) else (if x1 = 4 then (some (0, σ 0 0)) else (if x1 = 5 then (some (0, σ 3 0)) else (some (2, 0))))))))
end
section
section RN
variable {p : Program} {l : Launch} {e : Env} {R : Room} {s : State} {m : MethodId} {args : Array Value} {below : List Frame} {meth : Method} {c : Code} {H : Heap} {locs : List Loc} {cells slots : Nat} {Q : State → Prop}
variable {cc : ByteArray} {pc : Nat} {ls : Array Slot} {rest : List Value} {G : va_G} {ad : Nat → Nat} {cI cZ : ClassId} {σ : Sg} {own : String}
theorem nw_PM_144_146 {Qc : Array Value → State → Outcome → State → Prop} {free : Addr → Prop} {b0 : Nat} (C : CX "PlaceMoves" cc p s m args c G cI cZ) (hfl : l.flags = pinnedFlags ++ [noTraceFlag]) (hTE : TE b0 s s.heap) (hml : c.maxLocals = ls.size) (d0 : decode cc pc = .ok (.new 144, 3)) (d3 : decode cc (pc + 3) = .ok (.dup, 1)) (d4 : decode cc (pc + 4) = .ok (.ldc 146, 2)) (d6 : decode cc (pc + 6) = .ok (.invokespecial 148, 3)) (d9 : decode cc (pc + 9) = .ok (.athrow, 1)) (hout : ∀ x ∈ c.exceptionTable.toList, covers x (pc + 9) = false) (hlocks : meth.locks = false) (hcs : cells + 1 ≤ R.cells ∧ slots + 6 ≤ R.slots) (hR : 6 ≤ R.frames ∧ 90 ≤ R.locals) (hrest : (rest.map fun v => v.category).sum ≤ 8) (kq : ∀ t : State, Thr 2 s.heap (.threw s.heap.size) t → Qc args s (.threw s.heap.size) t) : W p l e R s m args below meth c s.heap [] cells slots (tx_MQ below Qc args s (cells + 1) (slots + 6) free) (F0 m pc ls rest) :=
  tx_new (cls := "java/lang/IllegalArgumentException") (Y := "java/lang/RuntimeException") (text := "a door joins two places") (r := ["java/lang/Exception"]) (ix := 7) (rx := prog_11_method_2_code) (own := "PlaceMoves") C.1 C.2.1 hfl C.2.2.1 (C.2.2.2.1 _ w_293) (C.2.2.2.1 _ w_13) (at_all at_PM_148 C.2.2.2.1 hTE.sp) (by decide +kernel) (by decide +kernel) (by decide +kernel) (by decide +kernel) (by decide +kernel) (by decide +kernel) (by decide +kernel) (hTE.2.2.2.2 ("PlaceMoves", 146, "a door joins two places") (List.mem_of_getElem? (i := 4) rfl)).choose_spec.1 hml d0 d3 d4 d6 d9 hout hlocks hcs.1 hcs.2 (Nat.lt_of_lt_of_le (by decide) hR.1) (Nat.le_trans (by show _ + (13 * 3 + 43) ≤ 90; omega) hR.2) (fun t ce h1 h2 h3 h4 h5 h6 => kq t ⟨_, ce, rfl, h1, h2, by rw [h4.findClass]; exact h3, Nat.le_refl _, h5, h6⟩)
theorem nw_PM_144_181 {Qc : Array Value → State → Outcome → State → Prop} {free : Addr → Prop} {b0 : Nat} (C : CX "PlaceMoves" cc p s m args c G cI cZ) (hfl : l.flags = pinnedFlags ++ [noTraceFlag]) (hTE : TE b0 s s.heap) (hml : c.maxLocals = ls.size) (d0 : decode cc pc = .ok (.new 144, 3)) (d3 : decode cc (pc + 3) = .ok (.dup, 1)) (d4 : decode cc (pc + 4) = .ok (.ldc 181, 2)) (d6 : decode cc (pc + 6) = .ok (.invokespecial 148, 3)) (d9 : decode cc (pc + 9) = .ok (.athrow, 1)) (hout : ∀ x ∈ c.exceptionTable.toList, covers x (pc + 9) = false) (hlocks : meth.locks = false) (hcs : cells + 1 ≤ R.cells ∧ slots + 6 ≤ R.slots) (hR : 6 ≤ R.frames ∧ 90 ≤ R.locals) (hrest : (rest.map fun v => v.category).sum ≤ 8) (kq : ∀ t : State, Thr 2 s.heap (.threw s.heap.size) t → Qc args s (.threw s.heap.size) t) : W p l e R s m args below meth c s.heap [] cells slots (tx_MQ below Qc args s (cells + 1) (slots + 6) free) (F0 m pc ls rest) :=
  tx_new (cls := "java/lang/IllegalArgumentException") (Y := "java/lang/RuntimeException") (text := "a quiet time begins at 0 or later and ends no sooner than that") (r := ["java/lang/Exception"]) (ix := 7) (rx := prog_11_method_2_code) (own := "PlaceMoves") C.1 C.2.1 hfl C.2.2.1 (C.2.2.2.1 _ w_293) (C.2.2.2.1 _ w_13) (at_all at_PM_148 C.2.2.2.1 hTE.sp) (by decide +kernel) (by decide +kernel) (by decide +kernel) (by decide +kernel) (by decide +kernel) (by decide +kernel) (by decide +kernel) (hTE.2.2.2.2 ("PlaceMoves", 181, "a quiet time begins at 0 or later and ends no sooner than that") (List.mem_of_getElem? (i := 5) rfl)).choose_spec.1 hml d0 d3 d4 d6 d9 hout hlocks hcs.1 hcs.2 (Nat.lt_of_lt_of_le (by decide) hR.1) (Nat.le_trans (by show _ + (13 * 3 + 43) ≤ 90; omega) hR.2) (fun t ce h1 h2 h3 h4 h5 h6 => kq t ⟨_, ce, rfl, h1, h2, by rw [h4.findClass]; exact h3, Nat.le_refl _, h5, h6⟩)
theorem nw_PM_144_189 {Qc : Array Value → State → Outcome → State → Prop} {free : Addr → Prop} {b0 : Nat} (C : CX "PlaceMoves" cc p s m args c G cI cZ) (hfl : l.flags = pinnedFlags ++ [noTraceFlag]) (hTE : TE b0 s s.heap) (hml : c.maxLocals = ls.size) (d0 : decode cc pc = .ok (.new 144, 3)) (d3 : decode cc (pc + 3) = .ok (.dup, 1)) (d4 : decode cc (pc + 4) = .ok (.ldc 189, 2)) (d6 : decode cc (pc + 6) = .ok (.invokespecial 148, 3)) (d9 : decode cc (pc + 9) = .ok (.athrow, 1)) (hout : ∀ x ∈ c.exceptionTable.toList, covers x (pc + 9) = false) (hlocks : meth.locks = false) (hcs : cells + 1 ≤ R.cells ∧ slots + 6 ≤ R.slots) (hR : 6 ≤ R.frames ∧ 90 ≤ R.locals) (hrest : (rest.map fun v => v.category).sum ≤ 8) (kq : ∀ t : State, Thr 2 s.heap (.threw s.heap.size) t → Qc args s (.threw s.heap.size) t) : W p l e R s m args below meth c s.heap [] cells slots (tx_MQ below Qc args s (cells + 1) (slots + 6) free) (F0 m pc ls rest) :=
  tx_new (cls := "java/lang/IllegalArgumentException") (Y := "java/lang/RuntimeException") (text := "nothing of this number is counted") (r := ["java/lang/Exception"]) (ix := 7) (rx := prog_11_method_2_code) (own := "PlaceMoves") C.1 C.2.1 hfl C.2.2.1 (C.2.2.2.1 _ w_293) (C.2.2.2.1 _ w_13) (at_all at_PM_148 C.2.2.2.1 hTE.sp) (by decide +kernel) (by decide +kernel) (by decide +kernel) (by decide +kernel) (by decide +kernel) (by decide +kernel) (by decide +kernel) (hTE.2.2.2.2 ("PlaceMoves", 189, "nothing of this number is counted") (List.mem_of_getElem? (i := 6) rfl)).choose_spec.1 hml d0 d3 d4 d6 d9 hout hlocks hcs.1 hcs.2 (Nat.lt_of_lt_of_le (by decide) hR.1) (Nat.le_trans (by show _ + (13 * 3 + 43) ≤ 90; omega) hR.2) (fun t ce h1 h2 h3 h4 h5 h6 => kq t ⟨_, ce, rfl, h1, h2, by rw [h4.findClass]; exact h3, Nat.le_refl _, h5, h6⟩)
theorem nw_PM_144_196 {Qc : Array Value → State → Outcome → State → Prop} {free : Addr → Prop} {b0 : Nat} (C : CX "PlaceMoves" cc p s m args c G cI cZ) (hfl : l.flags = pinnedFlags ++ [noTraceFlag]) (hTE : TE b0 s s.heap) (hml : c.maxLocals = ls.size) (d0 : decode cc pc = .ok (.new 144, 3)) (d3 : decode cc (pc + 3) = .ok (.dup, 1)) (d4 : decode cc (pc + 4) = .ok (.ldc 196, 2)) (d6 : decode cc (pc + 6) = .ok (.invokespecial 148, 3)) (d9 : decode cc (pc + 9) = .ok (.athrow, 1)) (hout : ∀ x ∈ c.exceptionTable.toList, covers x (pc + 9) = false) (hlocks : meth.locks = false) (hcs : cells + 1 ≤ R.cells ∧ slots + 6 ≤ R.slots) (hR : 6 ≤ R.frames ∧ 90 ≤ R.locals) (hrest : (rest.map fun v => v.category).sum ≤ 8) (kq : ∀ t : State, Thr 2 s.heap (.threw s.heap.size) t → Qc args s (.threw s.heap.size) t) : W p l e R s m args below meth c s.heap [] cells slots (tx_MQ below Qc args s (cells + 1) (slots + 6) free) (F0 m pc ls rest) :=
  tx_new (cls := "java/lang/IllegalArgumentException") (Y := "java/lang/RuntimeException") (text := "a value is out of its range") (r := ["java/lang/Exception"]) (ix := 7) (rx := prog_11_method_2_code) (own := "PlaceMoves") C.1 C.2.1 hfl C.2.2.1 (C.2.2.2.1 _ w_293) (C.2.2.2.1 _ w_13) (at_all at_PM_148 C.2.2.2.1 hTE.sp) (by decide +kernel) (by decide +kernel) (by decide +kernel) (by decide +kernel) (by decide +kernel) (by decide +kernel) (by decide +kernel) (hTE.2.2.2.2 ("PlaceMoves", 196, "a value is out of its range") (List.mem_of_getElem? (i := 1) rfl)).choose_spec.1 hml d0 d3 d4 d6 d9 hout hlocks hcs.1 hcs.2 (Nat.lt_of_lt_of_le (by decide) hR.1) (Nat.le_trans (by show _ + (13 * 3 + 43) ≤ 90; omega) hR.2) (fun t ce h1 h2 h3 h4 h5 h6 => kq t ⟨_, ce, rfl, h1, h2, by rw [h4.findClass]; exact h3, Nat.le_refl _, h5, h6⟩)
theorem nw_PM_191_193 {Qc : Array Value → State → Outcome → State → Prop} {free : Addr → Prop} {b0 : Nat} (C : CX "PlaceMoves" cc p s m args c G cI cZ) (hfl : l.flags = pinnedFlags ++ [noTraceFlag]) (hTE : TE b0 s s.heap) (hml : c.maxLocals = ls.size) (d0 : decode cc pc = .ok (.new 191, 3)) (d3 : decode cc (pc + 3) = .ok (.dup, 1)) (d4 : decode cc (pc + 4) = .ok (.ldc 193, 2)) (d6 : decode cc (pc + 6) = .ok (.invokespecial 195, 3)) (d9 : decode cc (pc + 9) = .ok (.athrow, 1)) (hout : ∀ x ∈ c.exceptionTable.toList, covers x (pc + 9) = false) (hlocks : meth.locks = false) (hcs : cells + 1 ≤ R.cells ∧ slots + 6 ≤ R.slots) (hR : 6 ≤ R.frames ∧ 90 ≤ R.locals) (hrest : (rest.map fun v => v.category).sum ≤ 8) (kq : ∀ t : State, Thr 1 s.heap (.threw s.heap.size) t → Qc args s (.threw s.heap.size) t) : W p l e R s m args below meth c s.heap [] cells slots (tx_MQ below Qc args s (cells + 1) (slots + 6) free) (F0 m pc ls rest) :=
  tx_new (cls := "java/util/NoSuchElementException") (Y := "java/lang/RuntimeException") (text := "there is none of this number") (r := ["java/lang/Exception"]) (ix := 13) (rx := prog_17_method_4_code) (own := "PlaceMoves") C.1 C.2.1 hfl C.2.2.1 (C.2.2.2.1 _ w_221) (C.2.2.2.1 _ w_12) (at_all at_PM_195 C.2.2.2.1 hTE.sp) (by decide +kernel) (by decide +kernel) (by decide +kernel) (by decide +kernel) (by decide +kernel) (by decide +kernel) (by decide +kernel) (hTE.2.2.2.2 ("PlaceMoves", 193, "there is none of this number") (List.mem_of_getElem? (i := 0) rfl)).choose_spec.1 hml d0 d3 d4 d6 d9 hout hlocks hcs.1 hcs.2 (Nat.lt_of_lt_of_le (by decide) hR.1) (Nat.le_trans (by show _ + (13 * 3 + 43) ≤ 90; omega) hR.2) (fun t ce h1 h2 h3 h4 h5 h6 => kq t ⟨_, ce, rfl, h1, h2, by rw [h4.findClass]; exact h3, Nat.le_refl _, h5, h6⟩)
theorem nw_PM_198_200 {Qc : Array Value → State → Outcome → State → Prop} {free : Addr → Prop} {b0 : Nat} (C : CX "PlaceMoves" cc p s m args c G cI cZ) (hfl : l.flags = pinnedFlags ++ [noTraceFlag]) (hTE : TE b0 s s.heap) (hml : c.maxLocals = ls.size) (d0 : decode cc pc = .ok (.new 198, 3)) (d3 : decode cc (pc + 3) = .ok (.dup, 1)) (d4 : decode cc (pc + 4) = .ok (.ldc 200, 2)) (d6 : decode cc (pc + 6) = .ok (.invokespecial 202, 3)) (d9 : decode cc (pc + 9) = .ok (.athrow, 1)) (hout : ∀ x ∈ c.exceptionTable.toList, covers x (pc + 9) = false) (hlocks : meth.locks = false) (hcs : cells + 1 ≤ R.cells ∧ slots + 6 ≤ R.slots) (hR : 6 ≤ R.frames ∧ 90 ≤ R.locals) (hrest : (rest.map fun v => v.category).sum ≤ 8) (kq : ∀ t : State, Thr 3 s.heap (.threw s.heap.size) t → Qc args s (.threw s.heap.size) t) : W p l e R s m args below meth c s.heap [] cells slots (tx_MQ below Qc args s (cells + 1) (slots + 6) free) (F0 m pc ls rest) :=
  tx_new (cls := "java/lang/IllegalStateException") (Y := "java/lang/RuntimeException") (text := "there are as many as there may be") (r := ["java/lang/Exception"]) (ix := 7) (rx := prog_12_method_2_code) (own := "PlaceMoves") C.1 C.2.1 hfl C.2.2.1 (C.2.2.2.1 _ w_312) (C.2.2.2.1 _ w_14) (at_all at_PM_202 C.2.2.2.1 hTE.sp) (by decide +kernel) (by decide +kernel) (by decide +kernel) (by decide +kernel) (by decide +kernel) (by decide +kernel) (by decide +kernel) (hTE.2.2.2.2 ("PlaceMoves", 200, "there are as many as there may be") (List.mem_of_getElem? (i := 2) rfl)).choose_spec.1 hml d0 d3 d4 d6 d9 hout hlocks hcs.1 hcs.2 (Nat.lt_of_lt_of_le (by decide) hR.1) (Nat.le_trans (by show _ + (13 * 3 + 43) ≤ 90; omega) hR.2) (fun t ce h1 h2 h3 h4 h5 h6 => kq t ⟨_, ce, rfl, h1, h2, by rw [h4.findClass]; exact h3, Nat.le_refl _, h5, h6⟩)
theorem nw_PM_198_203 {Qc : Array Value → State → Outcome → State → Prop} {free : Addr → Prop} {b0 : Nat} (C : CX "PlaceMoves" cc p s m args c G cI cZ) (hfl : l.flags = pinnedFlags ++ [noTraceFlag]) (hTE : TE b0 s s.heap) (hml : c.maxLocals = ls.size) (d0 : decode cc pc = .ok (.new 198, 3)) (d3 : decode cc (pc + 3) = .ok (.dup, 1)) (d4 : decode cc (pc + 4) = .ok (.ldc 203, 2)) (d6 : decode cc (pc + 6) = .ok (.invokespecial 202, 3)) (d9 : decode cc (pc + 9) = .ok (.athrow, 1)) (hout : ∀ x ∈ c.exceptionTable.toList, covers x (pc + 9) = false) (hlocks : meth.locks = false) (hcs : cells + 1 ≤ R.cells ∧ slots + 6 ≤ R.slots) (hR : 6 ≤ R.frames ∧ 90 ≤ R.locals) (hrest : (rest.map fun v => v.category).sum ≤ 8) (kq : ∀ t : State, Thr 3 s.heap (.threw s.heap.size) t → Qc args s (.threw s.heap.size) t) : W p l e R s m args below meth c s.heap [] cells slots (tx_MQ below Qc args s (cells + 1) (slots + 6) free) (F0 m pc ls rest) :=
  tx_new (cls := "java/lang/IllegalStateException") (Y := "java/lang/RuntimeException") (text := "a key is missing") (r := ["java/lang/Exception"]) (ix := 7) (rx := prog_12_method_2_code) (own := "PlaceMoves") C.1 C.2.1 hfl C.2.2.1 (C.2.2.2.1 _ w_312) (C.2.2.2.1 _ w_14) (at_all at_PM_202 C.2.2.2.1 hTE.sp) (by decide +kernel) (by decide +kernel) (by decide +kernel) (by decide +kernel) (by decide +kernel) (by decide +kernel) (by decide +kernel) (hTE.2.2.2.2 ("PlaceMoves", 203, "a key is missing") (List.mem_of_getElem? (i := 3) rfl)).choose_spec.1 hml d0 d3 d4 d6 d9 hout hlocks hcs.1 hcs.2 (Nat.lt_of_lt_of_le (by decide) hR.1) (Nat.le_trans (by show _ + (13 * 3 + 43) ≤ 90; omega) hR.2) (fun t ce h1 h2 h3 h4 h5 h6 => kq t ⟨_, ce, rfl, h1, h2, by rw [h4.findClass]; exact h3, Nat.le_refl _, h5, h6⟩)
end RN
end
section
abbrev wl_PM_needKnown : List Cond := .code ⟨"PlaceMoves", "needKnown", "(II)V"⟩ prog_1_method_23_code 2 none :: WG
set_option maxHeartbeats 4000000 in
set_option maxRecDepth 100000 in
theorem c_PM_needKnown (l : Launch) (hfl : l.flags = pinnedFlags ++ [noTraceFlag]) (b0 : Nat) (G : va_G) (ad : Nat → Nat) (cI cZ : ClassId) (σ : Sg) (a0 : Int32) (a1 : Int32) (out : Nat) (h : f_PM_needKnown σ a0 a1 = some out) : tx_Met l ⟨"PlaceMoves", "needKnown", "(II)V"⟩ wl_PM_needKnown (rmE 6 90 out) (PcT b0 G ad cI cZ σ [.int a0, .int a1]) (QTv out) (cE out) (6 * cE out) (fun _ => False) := by
  refine tx_ofW (cc := prog_1_method_23_code) (maxL := 2) (ret := none) (by decide) rfl ?_
  intro p e s m args below meth c s₁ B hml hv
  obtain ⟨rfl, hP, hK, hTE⟩ := hv
  have hx := B.exec
  have hb := B.bytes
  have hr := B.returns
  have hts0 := atoms_spec (ws := wl_PM_needKnown) B.pre
  have hts : ∀ w ∈ WG, w.before _ s = true := fun w hw => hts0 w (List.mem_cons_of_mem _ hw)
  have hne := B.noHandlers (hts0 _ List.mem_cons_self)
  have hown : s.vm.findClass "PlaceMoves" = some m.cls := findClass_of_methodNamed B.named
  have hlocks := B.notSynchronized
  have C : CX "PlaceMoves" prog_1_method_23_code p s m _ c G cI cZ := ⟨hx, hb, hown, hts, hK⟩
  have hl := lv_entry ([.int a0, .int a1]) (n := 2) (Nat.le_of_ble_eq_true rfl)
  rw [lg_entry_eq]
  generalize (lg_sl ([.int a0, .int a1]) ++ List.replicate (2 - (lg_sl ([.int a0, .int a1])).length) Slot.unset).toArray = ls at hl ⊢
  have hl : lv_has ls 2 [(0, .int a0), (1, .int a1)] := hl
  unfold f_PM_needKnown at h
  refine lv_iload_n hx hb d_PM_needKnown_0 rfl (lv_at hl 0 rfl) ?_
  refine lv_if_lt (tgt := 9) hx hb d_PM_needKnown_1 (by decide) (fun c1 => ?_) (fun c1 => ?_)
  · rw [if_pos c1] at h
    exact tx_lnv h (by decide) (nw_PM_191_193 C hfl hTE (hml.trans hl.1.symm) d_PM_needKnown_9 d_PM_needKnown_12 d_PM_needKnown_13 d_PM_needKnown_15 d_PM_needKnown_18 (covers_of_empty hne _) hlocks (cE_v1 h (by decide)) ⟨Nat.le_of_ble_eq_true rfl, Nat.le_of_ble_eq_true rfl⟩ (Nat.le_of_ble_eq_true rfl) (fun t t9 => qt_xv h (by decide) t9))
  · rw [if_neg c1] at h
    refine lv_iload_n hx hb d_PM_needKnown_4 rfl (lv_at hl 0 rfl) ?_
    refine lv_iload_n hx hb d_PM_needKnown_5 rfl (lv_at hl 1 rfl) ?_
    refine lv_icmp_lt (tgt := 19) hx hb d_PM_needKnown_6 (by decide) (fun c2 => ?_) (fun c2 => ?_)
    · rw [if_pos c2] at h
      exact tx_leafv h (W.vret hx hb hr (fun t ht _ => qt_v h ht) (fun _ hq => nomatch hq) d_PM_needKnown_19)
    · rw [if_neg c2] at h
      exact tx_lnv h (by decide) (nw_PM_191_193 C hfl hTE (hml.trans hl.1.symm) d_PM_needKnown_9 d_PM_needKnown_12 d_PM_needKnown_13 d_PM_needKnown_15 d_PM_needKnown_18 (covers_of_empty hne _) hlocks (cE_v1 h (by decide)) ⟨Nat.le_of_ble_eq_true rfl, Nat.le_of_ble_eq_true rfl⟩ (Nat.le_of_ble_eq_true rfl) (fun t t9 => qt_xv h (by decide) t9))
section RC
variable {p : Program} {l : Launch} {e : Env} {R : Room} {s : State} {m : MethodId} {args : Array Value} {below : List Frame} {meth : Method} {c : Code} {H : Heap} {locs : List Loc} {cells slots : Nat} {Q : State → Prop}
variable {cc : ByteArray} {pc : Nat} {ls : Array Slot} {rest : List Value} {G : va_G} {ad : Nat → Nat} {cI cZ : ClassId} {σ : Sg} {own : String}
theorem cl_PM_132 {b0 : Nat} (C : CX "PlaceMoves" cc p s m args c G cI cZ) (hfl : l.flags = pinnedFlags ++ [noTraceFlag]) (hTE : TE b0 s H) (hml : c.maxLocals = ls.size) (hP : va_P G clX (wX ad cI cZ σ) H) {x0 : Int32} {x1 : Int32} {r : Nat} (hg : f_PM_needKnown σ x0 x1 = some r) (z : r = 0) (hR : 6 + 1 ≤ R.frames ∧ 8 + (2 + 11) + 90 ≤ R.locals) (hrest : (rest.map fun v => v.category).sum ≤ 8) (hd : decode cc pc = .ok (.invokestatic 132, 3)) (hcs : cells + 0 ≤ R.cells ∧ slots + 0 ≤ R.slots) (kk : W p l e R s m args below meth c H locs cells slots Q (F0 m (pc + 3) ls rest)) : W p l e R s m args below meth c H locs cells slots Q (F0 m pc ls (.int x1 :: .int x0 :: rest)) := by
  have M := c_PM_needKnown l hfl b0 G ad cI cZ σ x0 x1 r hg
  rw [z] at M
  exact tx_call0 (v0 := none) (W.runS (As := [.int x0, .int x1]) (rest := rest) ⟨C.1, C.2.1, hml, C.2.2.1, C.2.2.2.1⟩ (tx_toMet M (fun _ _ _ _ q9 => ⟨_, (q9.1 rfl).1⟩)) (va_cwS 2 C.2.2.2.1 (wg_S w_218 w_219 w_1 w_220) rfl rfl rfl (by decide +kernel) hR) ⟨PcT.blind, fun U hU hZ => ⟨rfl, by rw [hU]; exact hP, C.2.2.2.2.warm hZ, by rw [hU]; exact hTE.warm hZ⟩⟩ rfl rfl rfl rfl (lv_room hrest) hd hcs) (fun _ _ _ q9 => q9.1 rfl) kk
theorem cl_PM_132_x {Qd : Array Value → State → Outcome → State → Prop} {b0 : Nat} (C : CX "PlaceMoves" cc p s m args c G cI cZ) (hfl : l.flags = pinnedFlags ++ [noTraceFlag]) (hTE : TE b0 s H) (hml : c.maxLocals = ls.size) (hP : va_P G clX (wX ad cI cZ σ) H) {x0 : Int32} {x1 : Int32} {r : Nat} (hg : f_PM_needKnown σ x0 x1 = some r) (z : ¬ r = 0) (hR : 6 + 1 ≤ R.frames ∧ 8 + (2 + 11) + 90 ≤ R.locals) (hrest : (rest.map fun v => v.category).sum ≤ 8) (hd : decode cc pc = .ok (.invokestatic 132, 3)) (hout : ∀ x ∈ c.exceptionTable.toList, covers x pc = false) (hlocks : meth.locks = false) (hcs : 0 + cE r ≤ R.cells ∧ 0 + 6 * cE r ≤ R.slots) (kq : ∀ (q : Addr) (u : State), Thr r H (.threw q) u → Qd args s (.threw q) u) {free : Addr → Prop} (hf1 : ∀ z ∈ locs, free z.base := by exact fun _ hq => nomatch hq) : W p l e R s m args below meth c H locs 0 0 (tx_MQ below Qd args s (0 + cE r) (0 + 6 * cE r) free) (F0 m pc ls (.int x1 :: .int x0 :: rest)) :=
  tx_Sout (As := [.int x0, .int x1]) (rest := rest) ⟨C.1, C.2.1, hml, C.2.2.1, C.2.2.2.1⟩ (c_PM_needKnown l hfl b0 G ad cI cZ σ x0 x1 r hg) (va_cwS 2 C.2.2.2.1 (wg_S w_218 w_219 w_1 w_220) rfl rfl rfl (by decide +kernel) hR) ⟨PcT.blind, fun U hU hZ => ⟨rfl, by rw [hU]; exact hP, C.2.2.2.2.warm hZ, by rw [hU]; exact hTE.warm hZ⟩⟩ (fun _ _ _ _ q9 => by obtain ⟨q, _, e9, _⟩ := q9.2 z; exact ⟨q, e9⟩) rfl rfl rfl rfl rfl rfl (lv_room hrest) hd hcs hout hlocks (fun q st t u hst q9 hu hv => kq q u (Thr.shift (by rw [← hst]; exact q9.2 z) hu hv)) hf1 (fun _ z9 => z9.elim)
end RC
abbrev wl_PM_needPlace : List Cond := .code ⟨"PlaceMoves", "needPlace", "(I)V"⟩ prog_1_method_20_code 2 none :: WG
set_option maxHeartbeats 4000000 in
set_option maxRecDepth 100000 in
theorem c_PM_needPlace (l : Launch) (hfl : l.flags = pinnedFlags ++ [noTraceFlag]) (b0 : Nat) (G : va_G) (ad : Nat → Nat) (cI cZ : ClassId) (σ : Sg) (a1 : Int32) (out : Nat) (h : f_PM_needPlace σ a1 = some out) : tx_Met l ⟨"PlaceMoves", "needPlace", "(I)V"⟩ wl_PM_needPlace (rmE 7 111 out) (PcT b0 G ad cI cZ σ [.ref (ad 0), .int a1]) (QTv out) (cE out) (6 * cE out) (fun _ => False) := by
  refine tx_ofW (cc := prog_1_method_20_code) (maxL := 2) (ret := none) (by decide) rfl ?_
  intro p e s m args below meth c s₁ B hml hv
  obtain ⟨rfl, hP, hK, hTE⟩ := hv
  have hx := B.exec
  have hb := B.bytes
  have hr := B.returns
  have hts0 := atoms_spec (ws := wl_PM_needPlace) B.pre
  have hts : ∀ w ∈ WG, w.before _ s = true := fun w hw => hts0 w (List.mem_cons_of_mem _ hw)
  have hne := B.noHandlers (hts0 _ List.mem_cons_self)
  have hown : s.vm.findClass "PlaceMoves" = some m.cls := findClass_of_methodNamed B.named
  have hlocks := B.notSynchronized
  have C : CX "PlaceMoves" prog_1_method_20_code p s m _ c G cI cZ := ⟨hx, hb, hown, hts, hK⟩
  have hl := lv_entry ([.ref (ad 0), .int a1]) (n := 2) (Nat.le_of_ble_eq_true rfl)
  rw [lg_entry_eq]
  generalize (lg_sl ([.ref (ad 0), .int a1]) ++ List.replicate (2 - (lg_sl ([.ref (ad 0), .int a1])).length) Slot.unset).toArray = ls at hl ⊢
  have hl : lv_has ls 2 [(0, .ref (ad 0)), (1, .int a1)] := hl
  unfold f_PM_needPlace at h
  refine lv_iload_n hx hb d_PM_needPlace_0 rfl (lv_at hl 1 rfl) ?_
  refine lv_aload_n hx hb d_PM_needPlace_1 rfl (lv_at hl 0 rfl) ?_
  refine gf_PM_10 C hP d_PM_needPlace_2 ?_
  refine gf_PM_72 C hP d_PM_needPlace_5 ?_
  obtain ⟨r1, g_r1, h⟩ := ob_some h
  by_cases z_r1 : r1 = 0
  · rw [if_pos z_r1] at h
    refine cl_PM_132 (rest := []) C hfl hTE (hml.trans hl.1.symm) hP g_r1 z_r1 ⟨Nat.le_of_ble_eq_true rfl, Nat.le_of_ble_eq_true rfl⟩ (Nat.le_of_ble_eq_true rfl) d_PM_needPlace_8 ⟨Nat.zero_le _, Nat.zero_le _⟩ ?_
    exact tx_leafv h (W.vret hx hb hr (fun t ht _ => qt_v h ht) (fun _ hq => nomatch hq) d_PM_needPlace_11)
  · rw [if_neg z_r1] at h
    exact tx_lpv h (cl_PM_132_x (rest := []) C hfl hTE (hml.trans hl.1.symm) hP g_r1 z_r1 ⟨Nat.le_of_ble_eq_true rfl, Nat.le_of_ble_eq_true rfl⟩ (Nat.le_of_ble_eq_true rfl) d_PM_needPlace_8 (covers_of_empty hne _) hlocks (cE_v h) (fun _ _ t9 => qt_xv h z_r1 t9))
section RC
variable {p : Program} {l : Launch} {e : Env} {R : Room} {s : State} {m : MethodId} {args : Array Value} {below : List Frame} {meth : Method} {c : Code} {H : Heap} {locs : List Loc} {cells slots : Nat} {Q : State → Prop}
variable {cc : ByteArray} {pc : Nat} {ls : Array Slot} {rest : List Value} {G : va_G} {ad : Nat → Nat} {cI cZ : ClassId} {σ : Sg} {own : String}
theorem cl_PM_63 {b0 : Nat} (C : CX "PlaceMoves" cc p s m args c G cI cZ) (hfl : l.flags = pinnedFlags ++ [noTraceFlag]) (hTE : TE b0 s H) (hml : c.maxLocals = ls.size) (hP : va_P G clX (wX ad cI cZ σ) H) {x1 : Int32} {r : Nat} (hg : f_PM_needPlace σ x1 = some r) (z : r = 0) (hR : 7 + 1 ≤ R.frames ∧ 8 + (2 + 11) + 111 ≤ R.locals) (hrest : (rest.map fun v => v.category).sum ≤ 8) (hd : decode cc pc = .ok (.invokevirtual 63, 3)) (hcs : cells + 0 ≤ R.cells ∧ slots + 0 ≤ R.slots) (kk : W p l e R s m args below meth c H locs cells slots Q (F0 m (pc + 3) ls rest)) : W p l e R s m args below meth c H locs cells slots Q (F0 m pc ls (.int x1 :: .ref (ad 0) :: rest)) := by
  have M := c_PM_needPlace l hfl b0 G ad cI cZ σ x1 r hg
  rw [z] at M
  exact tx_call0 (v0 := none) (W.runV (As := [.int x1]) (rest := rest) ⟨C.1, C.2.1, hml, C.2.2.1, C.2.2.2.1⟩ (tx_toMet M (fun _ _ _ _ q9 => ⟨_, (q9.1 rfl).1⟩)) (cwV 1 C.2.2.2.1 (wg_V w_214 w_216 ws_0 w_1 w_217) rfl rfl rfl (by decide +kernel) hR) ⟨PcT.blind, va_recv C.2.2.2.2.1 hP (ci := 0) (q0 := 0) rfl rfl, fun U hU hZ => ⟨rfl, by rw [hU]; exact hP, C.2.2.2.2.warm hZ, by rw [hU]; exact hTE.warm hZ⟩⟩ rfl rfl rfl rfl (lv_room hrest) hd hcs) (fun _ _ _ q9 => q9.1 rfl) kk
theorem cl_PM_63_x {Qd : Array Value → State → Outcome → State → Prop} {b0 : Nat} (C : CX "PlaceMoves" cc p s m args c G cI cZ) (hfl : l.flags = pinnedFlags ++ [noTraceFlag]) (hTE : TE b0 s H) (hml : c.maxLocals = ls.size) (hP : va_P G clX (wX ad cI cZ σ) H) {x1 : Int32} {r : Nat} (hg : f_PM_needPlace σ x1 = some r) (z : ¬ r = 0) (hR : 7 + 1 ≤ R.frames ∧ 8 + (2 + 11) + 111 ≤ R.locals) (hrest : (rest.map fun v => v.category).sum ≤ 8) (hd : decode cc pc = .ok (.invokevirtual 63, 3)) (hout : ∀ x ∈ c.exceptionTable.toList, covers x pc = false) (hlocks : meth.locks = false) (hcs : 0 + cE r ≤ R.cells ∧ 0 + 6 * cE r ≤ R.slots) (kq : ∀ (q : Addr) (u : State), Thr r H (.threw q) u → Qd args s (.threw q) u) {free : Addr → Prop} (hf1 : ∀ z ∈ locs, free z.base := by exact fun _ hq => nomatch hq) : W p l e R s m args below meth c H locs 0 0 (tx_MQ below Qd args s (0 + cE r) (0 + 6 * cE r) free) (F0 m pc ls (.int x1 :: .ref (ad 0) :: rest)) :=
  tx_Vout (As := [.int x1]) (rest := rest) ⟨C.1, C.2.1, hml, C.2.2.1, C.2.2.2.1⟩ (c_PM_needPlace l hfl b0 G ad cI cZ σ x1 r hg) (cwV 1 C.2.2.2.1 (wg_V w_214 w_216 ws_0 w_1 w_217) rfl rfl rfl (by decide +kernel) hR) ⟨PcT.blind, va_recv C.2.2.2.2.1 hP (ci := 0) (q0 := 0) rfl rfl, fun U hU hZ => ⟨rfl, by rw [hU]; exact hP, C.2.2.2.2.warm hZ, by rw [hU]; exact hTE.warm hZ⟩⟩ (fun _ _ _ _ q9 => by obtain ⟨q, _, e9, _⟩ := q9.2 z; exact ⟨q, e9⟩) rfl rfl rfl rfl rfl rfl (lv_room hrest) hd hcs hout hlocks (fun q st t u hst q9 hu hv => kq q u (Thr.shift (by rw [← hst]; exact q9.2 z) hu hv)) hf1 (fun _ z9 => z9.elim)
end RC
abbrev wl_PM_needRange : List Cond := .code ⟨"PlaceMoves", "needRange", "(III)V"⟩ prog_1_method_24_code 3 none :: WG
set_option maxHeartbeats 4000000 in
set_option maxRecDepth 100000 in
theorem c_PM_needRange (l : Launch) (hfl : l.flags = pinnedFlags ++ [noTraceFlag]) (b0 : Nat) (G : va_G) (ad : Nat → Nat) (cI cZ : ClassId) (σ : Sg) (a0 : Int32) (a1 : Int32) (a2 : Int32) (out : Nat) (h : f_PM_needRange σ a0 a1 a2 = some out) : tx_Met l ⟨"PlaceMoves", "needRange", "(III)V"⟩ wl_PM_needRange (rmE 6 90 out) (PcT b0 G ad cI cZ σ [.int a0, .int a1, .int a2]) (QTv out) (cE out) (6 * cE out) (fun _ => False) := by
  refine tx_ofW (cc := prog_1_method_24_code) (maxL := 3) (ret := none) (by decide) rfl ?_
  intro p e s m args below meth c s₁ B hml hv
  obtain ⟨rfl, hP, hK, hTE⟩ := hv
  have hx := B.exec
  have hb := B.bytes
  have hr := B.returns
  have hts0 := atoms_spec (ws := wl_PM_needRange) B.pre
  have hts : ∀ w ∈ WG, w.before _ s = true := fun w hw => hts0 w (List.mem_cons_of_mem _ hw)
  have hne := B.noHandlers (hts0 _ List.mem_cons_self)
  have hown : s.vm.findClass "PlaceMoves" = some m.cls := findClass_of_methodNamed B.named
  have hlocks := B.notSynchronized
  have C : CX "PlaceMoves" prog_1_method_24_code p s m _ c G cI cZ := ⟨hx, hb, hown, hts, hK⟩
  have hl := lv_entry ([.int a0, .int a1, .int a2]) (n := 3) (Nat.le_of_ble_eq_true rfl)
  rw [lg_entry_eq]
  generalize (lg_sl ([.int a0, .int a1, .int a2]) ++ List.replicate (3 - (lg_sl ([.int a0, .int a1, .int a2])).length) Slot.unset).toArray = ls at hl ⊢
  have hl : lv_has ls 3 [(0, .int a0), (1, .int a1), (2, .int a2)] := hl
  unfold f_PM_needRange at h
  refine lv_iload_n hx hb d_PM_needRange_0 rfl (lv_at hl 0 rfl) ?_
  refine lv_iload_n hx hb d_PM_needRange_1 rfl (lv_at hl 1 rfl) ?_
  refine lv_icmp_lt (tgt := 10) hx hb d_PM_needRange_2 (by decide) (fun c1 => ?_) (fun c1 => ?_)
  · rw [if_pos c1] at h
    exact tx_lnv h (by decide) (nw_PM_144_196 C hfl hTE (hml.trans hl.1.symm) d_PM_needRange_10 d_PM_needRange_13 d_PM_needRange_14 d_PM_needRange_16 d_PM_needRange_19 (covers_of_empty hne _) hlocks (cE_v1 h (by decide)) ⟨Nat.le_of_ble_eq_true rfl, Nat.le_of_ble_eq_true rfl⟩ (Nat.le_of_ble_eq_true rfl) (fun t t9 => qt_xv h (by decide) t9))
  · rw [if_neg c1] at h
    refine lv_iload_n hx hb d_PM_needRange_5 rfl (lv_at hl 0 rfl) ?_
    refine lv_iload_n hx hb d_PM_needRange_6 rfl (lv_at hl 2 rfl) ?_
    refine lv_icmp_le (tgt := 20) hx hb d_PM_needRange_7 (by decide) (fun c2 => ?_) (fun c2 => ?_)
    · rw [if_pos c2] at h
      exact tx_leafv h (W.vret hx hb hr (fun t ht _ => qt_v h ht) (fun _ hq => nomatch hq) d_PM_needRange_20)
    · rw [if_neg c2] at h
      exact tx_lnv h (by decide) (nw_PM_144_196 C hfl hTE (hml.trans hl.1.symm) d_PM_needRange_10 d_PM_needRange_13 d_PM_needRange_14 d_PM_needRange_16 d_PM_needRange_19 (covers_of_empty hne _) hlocks (cE_v1 h (by decide)) ⟨Nat.le_of_ble_eq_true rfl, Nat.le_of_ble_eq_true rfl⟩ (Nat.le_of_ble_eq_true rfl) (fun t t9 => qt_xv h (by decide) t9))
section RC
variable {p : Program} {l : Launch} {e : Env} {R : Room} {s : State} {m : MethodId} {args : Array Value} {below : List Frame} {meth : Method} {c : Code} {H : Heap} {locs : List Loc} {cells slots : Nat} {Q : State → Prop}
variable {cc : ByteArray} {pc : Nat} {ls : Array Slot} {rest : List Value} {G : va_G} {ad : Nat → Nat} {cI cZ : ClassId} {σ : Sg} {own : String}
theorem cl_PM_68 {b0 : Nat} (C : CX "PlaceMoves" cc p s m args c G cI cZ) (hfl : l.flags = pinnedFlags ++ [noTraceFlag]) (hTE : TE b0 s H) (hml : c.maxLocals = ls.size) (hP : va_P G clX (wX ad cI cZ σ) H) {x0 : Int32} {x1 : Int32} {x2 : Int32} {r : Nat} (hg : f_PM_needRange σ x0 x1 x2 = some r) (z : r = 0) (hR : 6 + 1 ≤ R.frames ∧ 8 + (3 + 11) + 90 ≤ R.locals) (hrest : (rest.map fun v => v.category).sum ≤ 8) (hd : decode cc pc = .ok (.invokestatic 68, 3)) (hcs : cells + 0 ≤ R.cells ∧ slots + 0 ≤ R.slots) (kk : W p l e R s m args below meth c H locs cells slots Q (F0 m (pc + 3) ls rest)) : W p l e R s m args below meth c H locs cells slots Q (F0 m pc ls (.int x2 :: .int x1 :: .int x0 :: rest)) := by
  have M := c_PM_needRange l hfl b0 G ad cI cZ σ x0 x1 x2 r hg
  rw [z] at M
  exact tx_call0 (v0 := none) (W.runS (As := [.int x0, .int x1, .int x2]) (rest := rest) ⟨C.1, C.2.1, hml, C.2.2.1, C.2.2.2.1⟩ (tx_toMet M (fun _ _ _ _ q9 => ⟨_, (q9.1 rfl).1⟩)) (va_cwS 3 C.2.2.2.1 (wg_S w_290 w_291 w_1 w_292) rfl rfl rfl (by decide +kernel) hR) ⟨PcT.blind, fun U hU hZ => ⟨rfl, by rw [hU]; exact hP, C.2.2.2.2.warm hZ, by rw [hU]; exact hTE.warm hZ⟩⟩ rfl rfl rfl rfl (lv_room hrest) hd hcs) (fun _ _ _ q9 => q9.1 rfl) kk
theorem cl_PM_68_x {Qd : Array Value → State → Outcome → State → Prop} {b0 : Nat} (C : CX "PlaceMoves" cc p s m args c G cI cZ) (hfl : l.flags = pinnedFlags ++ [noTraceFlag]) (hTE : TE b0 s H) (hml : c.maxLocals = ls.size) (hP : va_P G clX (wX ad cI cZ σ) H) {x0 : Int32} {x1 : Int32} {x2 : Int32} {r : Nat} (hg : f_PM_needRange σ x0 x1 x2 = some r) (z : ¬ r = 0) (hR : 6 + 1 ≤ R.frames ∧ 8 + (3 + 11) + 90 ≤ R.locals) (hrest : (rest.map fun v => v.category).sum ≤ 8) (hd : decode cc pc = .ok (.invokestatic 68, 3)) (hout : ∀ x ∈ c.exceptionTable.toList, covers x pc = false) (hlocks : meth.locks = false) (hcs : 0 + cE r ≤ R.cells ∧ 0 + 6 * cE r ≤ R.slots) (kq : ∀ (q : Addr) (u : State), Thr r H (.threw q) u → Qd args s (.threw q) u) {free : Addr → Prop} (hf1 : ∀ z ∈ locs, free z.base := by exact fun _ hq => nomatch hq) : W p l e R s m args below meth c H locs 0 0 (tx_MQ below Qd args s (0 + cE r) (0 + 6 * cE r) free) (F0 m pc ls (.int x2 :: .int x1 :: .int x0 :: rest)) :=
  tx_Sout (As := [.int x0, .int x1, .int x2]) (rest := rest) ⟨C.1, C.2.1, hml, C.2.2.1, C.2.2.2.1⟩ (c_PM_needRange l hfl b0 G ad cI cZ σ x0 x1 x2 r hg) (va_cwS 3 C.2.2.2.1 (wg_S w_290 w_291 w_1 w_292) rfl rfl rfl (by decide +kernel) hR) ⟨PcT.blind, fun U hU hZ => ⟨rfl, by rw [hU]; exact hP, C.2.2.2.2.warm hZ, by rw [hU]; exact hTE.warm hZ⟩⟩ (fun _ _ _ _ q9 => by obtain ⟨q, _, e9, _⟩ := q9.2 z; exact ⟨q, e9⟩) rfl rfl rfl rfl rfl rfl (lv_room hrest) hd hcs hout hlocks (fun q st t u hst q9 hu hv => kq q u (Thr.shift (by rw [← hst]; exact q9.2 z) hu hv)) hf1 (fun _ z9 => z9.elim)
end RC
abbrev wl_PM_needRoom : List Cond := .code ⟨"PlaceMoves", "needRoom", "(II)V"⟩ prog_1_method_25_code 2 none :: WG
set_option maxHeartbeats 4000000 in
set_option maxRecDepth 100000 in
theorem c_PM_needRoom (l : Launch) (hfl : l.flags = pinnedFlags ++ [noTraceFlag]) (b0 : Nat) (G : va_G) (ad : Nat → Nat) (cI cZ : ClassId) (σ : Sg) (a0 : Int32) (a1 : Int32) (out : Nat) (h : f_PM_needRoom σ a0 a1 = some out) : tx_Met l ⟨"PlaceMoves", "needRoom", "(II)V"⟩ wl_PM_needRoom (rmE 6 90 out) (PcT b0 G ad cI cZ σ [.int a0, .int a1]) (QTv out) (cE out) (6 * cE out) (fun _ => False) := by
  refine tx_ofW (cc := prog_1_method_25_code) (maxL := 2) (ret := none) (by decide) rfl ?_
  intro p e s m args below meth c s₁ B hml hv
  obtain ⟨rfl, hP, hK, hTE⟩ := hv
  have hx := B.exec
  have hb := B.bytes
  have hr := B.returns
  have hts0 := atoms_spec (ws := wl_PM_needRoom) B.pre
  have hts : ∀ w ∈ WG, w.before _ s = true := fun w hw => hts0 w (List.mem_cons_of_mem _ hw)
  have hne := B.noHandlers (hts0 _ List.mem_cons_self)
  have hown : s.vm.findClass "PlaceMoves" = some m.cls := findClass_of_methodNamed B.named
  have hlocks := B.notSynchronized
  have C : CX "PlaceMoves" prog_1_method_25_code p s m _ c G cI cZ := ⟨hx, hb, hown, hts, hK⟩
  have hl := lv_entry ([.int a0, .int a1]) (n := 2) (Nat.le_of_ble_eq_true rfl)
  rw [lg_entry_eq]
  generalize (lg_sl ([.int a0, .int a1]) ++ List.replicate (2 - (lg_sl ([.int a0, .int a1])).length) Slot.unset).toArray = ls at hl ⊢
  have hl : lv_has ls 2 [(0, .int a0), (1, .int a1)] := hl
  unfold f_PM_needRoom at h
  refine lv_iload_n hx hb d_PM_needRoom_0 rfl (lv_at hl 0 rfl) ?_
  refine lv_iload_n hx hb d_PM_needRoom_1 rfl (lv_at hl 1 rfl) ?_
  refine lv_icmp_lt (tgt := 15) hx hb d_PM_needRoom_2 (by decide) (fun c1 => ?_) (fun c1 => ?_)
  · rw [if_pos c1] at h
    exact tx_leafv h (W.vret hx hb hr (fun t ht _ => qt_v h ht) (fun _ hq => nomatch hq) d_PM_needRoom_15)
  · rw [if_neg c1] at h
    exact tx_lnv h (by decide) (nw_PM_198_200 C hfl hTE (hml.trans hl.1.symm) d_PM_needRoom_5 d_PM_needRoom_8 d_PM_needRoom_9 d_PM_needRoom_11 d_PM_needRoom_14 (covers_of_empty hne _) hlocks (cE_v1 h (by decide)) ⟨Nat.le_of_ble_eq_true rfl, Nat.le_of_ble_eq_true rfl⟩ (Nat.le_of_ble_eq_true rfl) (fun t t9 => qt_xv h (by decide) t9))
section RC
variable {p : Program} {l : Launch} {e : Env} {R : Room} {s : State} {m : MethodId} {args : Array Value} {below : List Frame} {meth : Method} {c : Code} {H : Heap} {locs : List Loc} {cells slots : Nat} {Q : State → Prop}
variable {cc : ByteArray} {pc : Nat} {ls : Array Slot} {rest : List Value} {G : va_G} {ad : Nat → Nat} {cI cZ : ClassId} {σ : Sg} {own : String}
theorem cl_PM_75 {b0 : Nat} (C : CX "PlaceMoves" cc p s m args c G cI cZ) (hfl : l.flags = pinnedFlags ++ [noTraceFlag]) (hTE : TE b0 s H) (hml : c.maxLocals = ls.size) (hP : va_P G clX (wX ad cI cZ σ) H) {x0 : Int32} {x1 : Int32} {r : Nat} (hg : f_PM_needRoom σ x0 x1 = some r) (z : r = 0) (hR : 6 + 1 ≤ R.frames ∧ 8 + (2 + 11) + 90 ≤ R.locals) (hrest : (rest.map fun v => v.category).sum ≤ 8) (hd : decode cc pc = .ok (.invokestatic 75, 3)) (hcs : cells + 0 ≤ R.cells ∧ slots + 0 ≤ R.slots) (kk : W p l e R s m args below meth c H locs cells slots Q (F0 m (pc + 3) ls rest)) : W p l e R s m args below meth c H locs cells slots Q (F0 m pc ls (.int x1 :: .int x0 :: rest)) := by
  have M := c_PM_needRoom l hfl b0 G ad cI cZ σ x0 x1 r hg
  rw [z] at M
  exact tx_call0 (v0 := none) (W.runS (As := [.int x0, .int x1]) (rest := rest) ⟨C.1, C.2.1, hml, C.2.2.1, C.2.2.2.1⟩ (tx_toMet M (fun _ _ _ _ q9 => ⟨_, (q9.1 rfl).1⟩)) (va_cwS 2 C.2.2.2.1 (wg_S w_309 w_310 w_1 w_311) rfl rfl rfl (by decide +kernel) hR) ⟨PcT.blind, fun U hU hZ => ⟨rfl, by rw [hU]; exact hP, C.2.2.2.2.warm hZ, by rw [hU]; exact hTE.warm hZ⟩⟩ rfl rfl rfl rfl (lv_room hrest) hd hcs) (fun _ _ _ q9 => q9.1 rfl) kk
theorem cl_PM_75_x {Qd : Array Value → State → Outcome → State → Prop} {b0 : Nat} (C : CX "PlaceMoves" cc p s m args c G cI cZ) (hfl : l.flags = pinnedFlags ++ [noTraceFlag]) (hTE : TE b0 s H) (hml : c.maxLocals = ls.size) (hP : va_P G clX (wX ad cI cZ σ) H) {x0 : Int32} {x1 : Int32} {r : Nat} (hg : f_PM_needRoom σ x0 x1 = some r) (z : ¬ r = 0) (hR : 6 + 1 ≤ R.frames ∧ 8 + (2 + 11) + 90 ≤ R.locals) (hrest : (rest.map fun v => v.category).sum ≤ 8) (hd : decode cc pc = .ok (.invokestatic 75, 3)) (hout : ∀ x ∈ c.exceptionTable.toList, covers x pc = false) (hlocks : meth.locks = false) (hcs : 0 + cE r ≤ R.cells ∧ 0 + 6 * cE r ≤ R.slots) (kq : ∀ (q : Addr) (u : State), Thr r H (.threw q) u → Qd args s (.threw q) u) {free : Addr → Prop} (hf1 : ∀ z ∈ locs, free z.base := by exact fun _ hq => nomatch hq) : W p l e R s m args below meth c H locs 0 0 (tx_MQ below Qd args s (0 + cE r) (0 + 6 * cE r) free) (F0 m pc ls (.int x1 :: .int x0 :: rest)) :=
  tx_Sout (As := [.int x0, .int x1]) (rest := rest) ⟨C.1, C.2.1, hml, C.2.2.1, C.2.2.2.1⟩ (c_PM_needRoom l hfl b0 G ad cI cZ σ x0 x1 r hg) (va_cwS 2 C.2.2.2.1 (wg_S w_309 w_310 w_1 w_311) rfl rfl rfl (by decide +kernel) hR) ⟨PcT.blind, fun U hU hZ => ⟨rfl, by rw [hU]; exact hP, C.2.2.2.2.warm hZ, by rw [hU]; exact hTE.warm hZ⟩⟩ (fun _ _ _ _ q9 => by obtain ⟨q, _, e9, _⟩ := q9.2 z; exact ⟨q, e9⟩) rfl rfl rfl rfl rfl rfl (lv_room hrest) hd hcs hout hlocks (fun q st t u hst q9 hu hv => kq q u (Thr.shift (by rw [← hst]; exact q9.2 z) hu hv)) hf1 (fun _ z9 => z9.elim)
end RC
abbrev wl_PM_needObject : List Cond := .code ⟨"PlaceMoves", "needObject", "(I)V"⟩ prog_1_method_21_code 2 none :: WG
set_option maxHeartbeats 4000000 in
set_option maxRecDepth 100000 in
theorem c_PM_needObject (l : Launch) (hfl : l.flags = pinnedFlags ++ [noTraceFlag]) (b0 : Nat) (G : va_G) (ad : Nat → Nat) (cI cZ : ClassId) (σ : Sg) (a1 : Int32) (out : Nat) (h : f_PM_needObject σ a1 = some out) : tx_Met l ⟨"PlaceMoves", "needObject", "(I)V"⟩ wl_PM_needObject (rmE 7 111 out) (PcT b0 G ad cI cZ σ [.ref (ad 0), .int a1]) (QTv out) (cE out) (6 * cE out) (fun _ => False) := by
  refine tx_ofW (cc := prog_1_method_21_code) (maxL := 2) (ret := none) (by decide) rfl ?_
  intro p e s m args below meth c s₁ B hml hv
  obtain ⟨rfl, hP, hK, hTE⟩ := hv
  have hx := B.exec
  have hb := B.bytes
  have hr := B.returns
  have hts0 := atoms_spec (ws := wl_PM_needObject) B.pre
  have hts : ∀ w ∈ WG, w.before _ s = true := fun w hw => hts0 w (List.mem_cons_of_mem _ hw)
  have hne := B.noHandlers (hts0 _ List.mem_cons_self)
  have hown : s.vm.findClass "PlaceMoves" = some m.cls := findClass_of_methodNamed B.named
  have hlocks := B.notSynchronized
  have C : CX "PlaceMoves" prog_1_method_21_code p s m _ c G cI cZ := ⟨hx, hb, hown, hts, hK⟩
  have hl := lv_entry ([.ref (ad 0), .int a1]) (n := 2) (Nat.le_of_ble_eq_true rfl)
  rw [lg_entry_eq]
  generalize (lg_sl ([.ref (ad 0), .int a1]) ++ List.replicate (2 - (lg_sl ([.ref (ad 0), .int a1])).length) Slot.unset).toArray = ls at hl ⊢
  have hl : lv_has ls 2 [(0, .ref (ad 0)), (1, .int a1)] := hl
  unfold f_PM_needObject at h
  refine lv_iload_n hx hb d_PM_needObject_0 rfl (lv_at hl 1 rfl) ?_
  refine lv_aload_n hx hb d_PM_needObject_1 rfl (lv_at hl 0 rfl) ?_
  refine gf_PM_19 C hP d_PM_needObject_2 ?_
  refine gf_PM_84 C hP d_PM_needObject_5 ?_
  obtain ⟨r1, g_r1, h⟩ := ob_some h
  by_cases z_r1 : r1 = 0
  · rw [if_pos z_r1] at h
    refine cl_PM_132 (rest := []) C hfl hTE (hml.trans hl.1.symm) hP g_r1 z_r1 ⟨Nat.le_of_ble_eq_true rfl, Nat.le_of_ble_eq_true rfl⟩ (Nat.le_of_ble_eq_true rfl) d_PM_needObject_8 ⟨Nat.zero_le _, Nat.zero_le _⟩ ?_
    exact tx_leafv h (W.vret hx hb hr (fun t ht _ => qt_v h ht) (fun _ hq => nomatch hq) d_PM_needObject_11)
  · rw [if_neg z_r1] at h
    exact tx_lpv h (cl_PM_132_x (rest := []) C hfl hTE (hml.trans hl.1.symm) hP g_r1 z_r1 ⟨Nat.le_of_ble_eq_true rfl, Nat.le_of_ble_eq_true rfl⟩ (Nat.le_of_ble_eq_true rfl) d_PM_needObject_8 (covers_of_empty hne _) hlocks (cE_v h) (fun _ _ t9 => qt_xv h z_r1 t9))
section RC
variable {p : Program} {l : Launch} {e : Env} {R : Room} {s : State} {m : MethodId} {args : Array Value} {below : List Frame} {meth : Method} {c : Code} {H : Heap} {locs : List Loc} {cells slots : Nat} {Q : State → Prop}
variable {cc : ByteArray} {pc : Nat} {ls : Array Slot} {rest : List Value} {G : va_G} {ad : Nat → Nat} {cI cZ : ClassId} {σ : Sg} {own : String}
theorem cl_PM_88 {b0 : Nat} (C : CX "PlaceMoves" cc p s m args c G cI cZ) (hfl : l.flags = pinnedFlags ++ [noTraceFlag]) (hTE : TE b0 s H) (hml : c.maxLocals = ls.size) (hP : va_P G clX (wX ad cI cZ σ) H) {x1 : Int32} {r : Nat} (hg : f_PM_needObject σ x1 = some r) (z : r = 0) (hR : 7 + 1 ≤ R.frames ∧ 8 + (2 + 11) + 111 ≤ R.locals) (hrest : (rest.map fun v => v.category).sum ≤ 8) (hd : decode cc pc = .ok (.invokevirtual 88, 3)) (hcs : cells + 0 ≤ R.cells ∧ slots + 0 ≤ R.slots) (kk : W p l e R s m args below meth c H locs cells slots Q (F0 m (pc + 3) ls rest)) : W p l e R s m args below meth c H locs cells slots Q (F0 m pc ls (.int x1 :: .ref (ad 0) :: rest)) := by
  have M := c_PM_needObject l hfl b0 G ad cI cZ σ x1 r hg
  rw [z] at M
  exact tx_call0 (v0 := none) (W.runV (As := [.int x1]) (rest := rest) ⟨C.1, C.2.1, hml, C.2.2.1, C.2.2.2.1⟩ (tx_toMet M (fun _ _ _ _ q9 => ⟨_, (q9.1 rfl).1⟩)) (cwV 1 C.2.2.2.1 (wg_V w_361 w_363 ws_2 w_1 w_364) rfl rfl rfl (by decide +kernel) hR) ⟨PcT.blind, va_recv C.2.2.2.2.1 hP (ci := 0) (q0 := 0) rfl rfl, fun U hU hZ => ⟨rfl, by rw [hU]; exact hP, C.2.2.2.2.warm hZ, by rw [hU]; exact hTE.warm hZ⟩⟩ rfl rfl rfl rfl (lv_room hrest) hd hcs) (fun _ _ _ q9 => q9.1 rfl) kk
theorem cl_PM_88_x {Qd : Array Value → State → Outcome → State → Prop} {b0 : Nat} (C : CX "PlaceMoves" cc p s m args c G cI cZ) (hfl : l.flags = pinnedFlags ++ [noTraceFlag]) (hTE : TE b0 s H) (hml : c.maxLocals = ls.size) (hP : va_P G clX (wX ad cI cZ σ) H) {x1 : Int32} {r : Nat} (hg : f_PM_needObject σ x1 = some r) (z : ¬ r = 0) (hR : 7 + 1 ≤ R.frames ∧ 8 + (2 + 11) + 111 ≤ R.locals) (hrest : (rest.map fun v => v.category).sum ≤ 8) (hd : decode cc pc = .ok (.invokevirtual 88, 3)) (hout : ∀ x ∈ c.exceptionTable.toList, covers x pc = false) (hlocks : meth.locks = false) (hcs : 0 + cE r ≤ R.cells ∧ 0 + 6 * cE r ≤ R.slots) (kq : ∀ (q : Addr) (u : State), Thr r H (.threw q) u → Qd args s (.threw q) u) {free : Addr → Prop} (hf1 : ∀ z ∈ locs, free z.base := by exact fun _ hq => nomatch hq) : W p l e R s m args below meth c H locs 0 0 (tx_MQ below Qd args s (0 + cE r) (0 + 6 * cE r) free) (F0 m pc ls (.int x1 :: .ref (ad 0) :: rest)) :=
  tx_Vout (As := [.int x1]) (rest := rest) ⟨C.1, C.2.1, hml, C.2.2.1, C.2.2.2.1⟩ (c_PM_needObject l hfl b0 G ad cI cZ σ x1 r hg) (cwV 1 C.2.2.2.1 (wg_V w_361 w_363 ws_2 w_1 w_364) rfl rfl rfl (by decide +kernel) hR) ⟨PcT.blind, va_recv C.2.2.2.2.1 hP (ci := 0) (q0 := 0) rfl rfl, fun U hU hZ => ⟨rfl, by rw [hU]; exact hP, C.2.2.2.2.warm hZ, by rw [hU]; exact hTE.warm hZ⟩⟩ (fun _ _ _ _ q9 => by obtain ⟨q, _, e9, _⟩ := q9.2 z; exact ⟨q, e9⟩) rfl rfl rfl rfl rfl rfl (lv_room hrest) hd hcs hout hlocks (fun q st t u hst q9 hu hv => kq q u (Thr.shift (by rw [← hst]; exact q9.2 z) hu hv)) hf1 (fun _ z9 => z9.elim)
end RC
abbrev wl_PM_needPerson : List Cond := .code ⟨"PlaceMoves", "needPerson", "(I)V"⟩ prog_1_method_22_code 2 none :: WG
set_option maxHeartbeats 4000000 in
set_option maxRecDepth 100000 in
theorem c_PM_needPerson (l : Launch) (hfl : l.flags = pinnedFlags ++ [noTraceFlag]) (b0 : Nat) (G : va_G) (ad : Nat → Nat) (cI cZ : ClassId) (σ : Sg) (a1 : Int32) (out : Nat) (h : f_PM_needPerson σ a1 = some out) : tx_Met l ⟨"PlaceMoves", "needPerson", "(I)V"⟩ wl_PM_needPerson (rmE 7 111 out) (PcT b0 G ad cI cZ σ [.ref (ad 0), .int a1]) (QTv out) (cE out) (6 * cE out) (fun _ => False) := by
  refine tx_ofW (cc := prog_1_method_22_code) (maxL := 2) (ret := none) (by decide) rfl ?_
  intro p e s m args below meth c s₁ B hml hv
  obtain ⟨rfl, hP, hK, hTE⟩ := hv
  have hx := B.exec
  have hb := B.bytes
  have hr := B.returns
  have hts0 := atoms_spec (ws := wl_PM_needPerson) B.pre
  have hts : ∀ w ∈ WG, w.before _ s = true := fun w hw => hts0 w (List.mem_cons_of_mem _ hw)
  have hne := B.noHandlers (hts0 _ List.mem_cons_self)
  have hown : s.vm.findClass "PlaceMoves" = some m.cls := findClass_of_methodNamed B.named
  have hlocks := B.notSynchronized
  have C : CX "PlaceMoves" prog_1_method_22_code p s m _ c G cI cZ := ⟨hx, hb, hown, hts, hK⟩
  have hl := lv_entry ([.ref (ad 0), .int a1]) (n := 2) (Nat.le_of_ble_eq_true rfl)
  rw [lg_entry_eq]
  generalize (lg_sl ([.ref (ad 0), .int a1]) ++ List.replicate (2 - (lg_sl ([.ref (ad 0), .int a1])).length) Slot.unset).toArray = ls at hl ⊢
  have hl : lv_has ls 2 [(0, .ref (ad 0)), (1, .int a1)] := hl
  unfold f_PM_needPerson at h
  refine lv_iload_n hx hb d_PM_needPerson_0 rfl (lv_at hl 1 rfl) ?_
  refine lv_bipush (v := 10) hx hb d_PM_needPerson_1 (by decide) ?_
  obtain ⟨r1, g_r1, h⟩ := ob_some h
  by_cases z_r1 : r1 = 0
  · rw [if_pos z_r1] at h
    refine cl_PM_132 (rest := []) C hfl hTE (hml.trans hl.1.symm) hP g_r1 z_r1 ⟨Nat.le_of_ble_eq_true rfl, Nat.le_of_ble_eq_true rfl⟩ (Nat.le_of_ble_eq_true rfl) d_PM_needPerson_3 ⟨Nat.zero_le _, Nat.zero_le _⟩ ?_
    exact tx_leafv h (W.vret hx hb hr (fun t ht _ => qt_v h ht) (fun _ hq => nomatch hq) d_PM_needPerson_6)
  · rw [if_neg z_r1] at h
    exact tx_lpv h (cl_PM_132_x (rest := []) C hfl hTE (hml.trans hl.1.symm) hP g_r1 z_r1 ⟨Nat.le_of_ble_eq_true rfl, Nat.le_of_ble_eq_true rfl⟩ (Nat.le_of_ble_eq_true rfl) d_PM_needPerson_3 (covers_of_empty hne _) hlocks (cE_v h) (fun _ _ t9 => qt_xv h z_r1 t9))
section RC
variable {p : Program} {l : Launch} {e : Env} {R : Room} {s : State} {m : MethodId} {args : Array Value} {below : List Frame} {meth : Method} {c : Code} {H : Heap} {locs : List Loc} {cells slots : Nat} {Q : State → Prop}
variable {cc : ByteArray} {pc : Nat} {ls : Array Slot} {rest : List Value} {G : va_G} {ad : Nat → Nat} {cI cZ : ClassId} {σ : Sg} {own : String}
theorem cl_PM_94 {b0 : Nat} (C : CX "PlaceMoves" cc p s m args c G cI cZ) (hfl : l.flags = pinnedFlags ++ [noTraceFlag]) (hTE : TE b0 s H) (hml : c.maxLocals = ls.size) (hP : va_P G clX (wX ad cI cZ σ) H) {x1 : Int32} {r : Nat} (hg : f_PM_needPerson σ x1 = some r) (z : r = 0) (hR : 7 + 1 ≤ R.frames ∧ 8 + (2 + 11) + 111 ≤ R.locals) (hrest : (rest.map fun v => v.category).sum ≤ 8) (hd : decode cc pc = .ok (.invokevirtual 94, 3)) (hcs : cells + 0 ≤ R.cells ∧ slots + 0 ≤ R.slots) (kk : W p l e R s m args below meth c H locs cells slots Q (F0 m (pc + 3) ls rest)) : W p l e R s m args below meth c H locs cells slots Q (F0 m pc ls (.int x1 :: .ref (ad 0) :: rest)) := by
  have M := c_PM_needPerson l hfl b0 G ad cI cZ σ x1 r hg
  rw [z] at M
  exact tx_call0 (v0 := none) (W.runV (As := [.int x1]) (rest := rest) ⟨C.1, C.2.1, hml, C.2.2.1, C.2.2.2.1⟩ (tx_toMet M (fun _ _ _ _ q9 => ⟨_, (q9.1 rfl).1⟩)) (cwV 1 C.2.2.2.1 (wg_V w_372 w_374 ws_3 w_1 w_375) rfl rfl rfl (by decide +kernel) hR) ⟨PcT.blind, va_recv C.2.2.2.2.1 hP (ci := 0) (q0 := 0) rfl rfl, fun U hU hZ => ⟨rfl, by rw [hU]; exact hP, C.2.2.2.2.warm hZ, by rw [hU]; exact hTE.warm hZ⟩⟩ rfl rfl rfl rfl (lv_room hrest) hd hcs) (fun _ _ _ q9 => q9.1 rfl) kk
theorem cl_PM_94_x {Qd : Array Value → State → Outcome → State → Prop} {b0 : Nat} (C : CX "PlaceMoves" cc p s m args c G cI cZ) (hfl : l.flags = pinnedFlags ++ [noTraceFlag]) (hTE : TE b0 s H) (hml : c.maxLocals = ls.size) (hP : va_P G clX (wX ad cI cZ σ) H) {x1 : Int32} {r : Nat} (hg : f_PM_needPerson σ x1 = some r) (z : ¬ r = 0) (hR : 7 + 1 ≤ R.frames ∧ 8 + (2 + 11) + 111 ≤ R.locals) (hrest : (rest.map fun v => v.category).sum ≤ 8) (hd : decode cc pc = .ok (.invokevirtual 94, 3)) (hout : ∀ x ∈ c.exceptionTable.toList, covers x pc = false) (hlocks : meth.locks = false) (hcs : 0 + cE r ≤ R.cells ∧ 0 + 6 * cE r ≤ R.slots) (kq : ∀ (q : Addr) (u : State), Thr r H (.threw q) u → Qd args s (.threw q) u) {free : Addr → Prop} (hf1 : ∀ z ∈ locs, free z.base := by exact fun _ hq => nomatch hq) : W p l e R s m args below meth c H locs 0 0 (tx_MQ below Qd args s (0 + cE r) (0 + 6 * cE r) free) (F0 m pc ls (.int x1 :: .ref (ad 0) :: rest)) :=
  tx_Vout (As := [.int x1]) (rest := rest) ⟨C.1, C.2.1, hml, C.2.2.1, C.2.2.2.1⟩ (c_PM_needPerson l hfl b0 G ad cI cZ σ x1 r hg) (cwV 1 C.2.2.2.1 (wg_V w_372 w_374 ws_3 w_1 w_375) rfl rfl rfl (by decide +kernel) hR) ⟨PcT.blind, va_recv C.2.2.2.2.1 hP (ci := 0) (q0 := 0) rfl rfl, fun U hU hZ => ⟨rfl, by rw [hU]; exact hP, C.2.2.2.2.warm hZ, by rw [hU]; exact hTE.warm hZ⟩⟩ (fun _ _ _ _ q9 => by obtain ⟨q, _, e9, _⟩ := q9.2 z; exact ⟨q, e9⟩) rfl rfl rfl rfl rfl rfl (lv_room hrest) hd hcs hout hlocks (fun q st t u hst q9 hu hv => kq q u (Thr.shift (by rw [← hst]; exact q9.2 z) hu hv)) hf1 (fun _ z9 => z9.elim)
end RC
abbrev wl_PM_needKeysOf : List Cond := .code ⟨"PlaceMoves", "needKeysOf", "(III)V"⟩ prog_1_method_26_code 6 none :: WG
set_option maxHeartbeats 4000000 in
set_option maxRecDepth 100000 in
theorem c_PM_needKeysOf (l : Launch) (hfl : l.flags = pinnedFlags ++ [noTraceFlag]) (b0 : Nat) (G : va_G) (ad : Nat → Nat) (cI cZ : ClassId) (σ : Sg) (a1 : Int32) (a2 : Int32) (a3 : Int32) (out : Nat) (h : f_PM_needKeysOf σ a1 a2 a3 = some out) : tx_Met l ⟨"PlaceMoves", "needKeysOf", "(III)V"⟩ wl_PM_needKeysOf (rmE 6 90 out) (PcT b0 G ad cI cZ σ [.ref (ad 0), .int a1, .int a2, .int a3]) (QTv out) (cE out) (6 * cE out) (fun _ => False) := by
  refine tx_ofW (cc := prog_1_method_26_code) (maxL := 6) (ret := none) (by decide) rfl ?_
  intro p e s m args below meth c s₁ B hml hv
  obtain ⟨rfl, hP, hK, hTE⟩ := hv
  have hx := B.exec
  have hb := B.bytes
  have hr := B.returns
  have hts0 := atoms_spec (ws := wl_PM_needKeysOf) B.pre
  have hts : ∀ w ∈ WG, w.before _ s = true := fun w hw => hts0 w (List.mem_cons_of_mem _ hw)
  have hne := B.noHandlers (hts0 _ List.mem_cons_self)
  have hown : s.vm.findClass "PlaceMoves" = some m.cls := findClass_of_methodNamed B.named
  have hlocks := B.notSynchronized
  have C : CX "PlaceMoves" prog_1_method_26_code p s m _ c G cI cZ := ⟨hx, hb, hown, hts, hK⟩
  have hl := lv_entry ([.ref (ad 0), .int a1, .int a2, .int a3]) (n := 6) (Nat.le_of_ble_eq_true rfl)
  rw [lg_entry_eq]
  generalize (lg_sl ([.ref (ad 0), .int a1, .int a2, .int a3]) ++ List.replicate (6 - (lg_sl ([.ref (ad 0), .int a1, .int a2, .int a3])).length) Slot.unset).toArray = ls at hl ⊢
  have hl : lv_has ls 6 [(0, .ref (ad 0)), (1, .int a1), (2, .int a2), (3, .int a3)] := hl
  unfold f_PM_needKeysOf at h
  refine lv_aload_n hx hb d_PM_needKeysOf_0 rfl (lv_at hl 0 rfl) ?_
  refine gf_PM_19 C hP d_PM_needKeysOf_1 ?_
  refine gf_PM_91 C hP d_PM_needKeysOf_4 ?_
  refine lv_iload_n hx hb d_PM_needKeysOf_7 rfl (lv_at hl 1 rfl) ?_
  obtain ⟨hin, h⟩ := gd_some h
  refine al_15 C hP hin d_PM_needKeysOf_8 ?_
  obtain ⟨y1, e_y1, h⟩ := lt1_some h
  refine W.eq (g2 := F0 m 9 ls (.int y1 :: [])) (by rw [e_y1]) ?_
  refine lv_istore (lv' := [(4, .int y1), (0, .ref (ad 0)), (1, .int a1), (2, .int a2), (3, .int a3)]) hx hb d_PM_needKeysOf_9 hl (by decide) rfl (fun ls hl => ?_)
  refine lv_iload hx hb d_PM_needKeysOf_11 (lv_at hl 0 rfl) ?_
  refine lv_if_eq (tgt := 60) hx hb d_PM_needKeysOf_13 (by decide) (fun c2 => ?_) (fun c2 => ?_)
  · rw [if_pos c2] at h
    refine lv_iconst (v := 1) hx hb d_PM_needKeysOf_60 (by decide) ?_
    refine lv_goto (tgt := 65) hx hb d_PM_needKeysOf_61 (by decide) ?_
    refine lv_istore (lv' := [(5, .int 1), (4, .int y1), (0, .ref (ad 0)), (1, .int a1), (2, .int a2), (3, .int a3)]) hx hb d_PM_needKeysOf_65 hl (by decide) rfl (fun ls hl => ?_)
    refine lv_iload hx hb d_PM_needKeysOf_67 (lv_at hl 0 rfl) ?_
    refine lv_if_ne (tgt := 82) hx hb d_PM_needKeysOf_69 (by decide) (fun c24 => ?_) (fun c24 => ?_)
    · rw [if_neg c24] at h
      exact tx_leafv h (W.vret hx hb hr (fun t ht _ => qt_v h ht) (fun _ hq => nomatch hq) d_PM_needKeysOf_82)
    · rw [if_pos c24] at h
      exact tx_lnv h (by decide) (nw_PM_198_203 C hfl hTE (hml.trans hl.1.symm) d_PM_needKeysOf_72 d_PM_needKeysOf_75 d_PM_needKeysOf_76 d_PM_needKeysOf_78 d_PM_needKeysOf_81 (covers_of_empty hne _) hlocks (cE_v1 h (by decide)) ⟨Nat.le_of_ble_eq_true rfl, Nat.le_of_ble_eq_true rfl⟩ (Nat.le_of_ble_eq_true rfl) (fun t t9 => qt_xv h (by decide) t9))
  · rw [if_neg c2] at h
    refine lv_iload hx hb d_PM_needKeysOf_16 (lv_at hl 0 rfl) ?_
    refine lv_iconst (v := 1) hx hb d_PM_needKeysOf_18 (by decide) ?_
    refine lv_icmp_ne (tgt := 31) hx hb d_PM_needKeysOf_19 (by decide) (fun c3 => ?_) (fun c3 => ?_)
    · rw [if_neg c3] at h
      have k31 : ∀ (x2 : Int32) (x3 : Int32) (x4 : Int32) (h : C_PM_needKeysOf_31 σ x2 x3 x4 = some out) (ls : Array Slot) (hl : lv_has ls 6 [(0, .ref (ad 0)), (2, .int x2), (3, .int x3), (4, .int x4)]), W p l e (headSpec wl_PM_needKeysOf (rmE 6 90 out)).room s m (([.ref (ad 0), .int a1, .int a2, .int a3] : List Value).toArray) below meth c s.heap [] 0 0 (tx_MQ below (QTv out) (([.ref (ad 0), .int a1, .int a2, .int a3] : List Value).toArray) s (cE out) (6 * cE out) (fun _ => False)) (F0 m 31 ls []) := by
        intro x2 x3 x4 h ls hl
        unfold C_PM_needKeysOf_31 at h
        refine lv_iload hx hb d_PM_needKeysOf_31 (lv_at hl 3 rfl) ?_
        refine lv_iconst (v := 2) hx hb d_PM_needKeysOf_33 (by decide) ?_
        refine lv_icmp_ne (tgt := 64) hx hb d_PM_needKeysOf_34 (by decide) (fun c15 => ?_) (fun c15 => ?_)
        · rw [if_neg c15] at h
          refine lv_iconst (v := 0) hx hb d_PM_needKeysOf_64 (by decide) ?_
          refine lv_istore (lv' := [(5, .int 0), (0, .ref (ad 0)), (2, .int x2), (3, .int x3), (4, .int x4)]) hx hb d_PM_needKeysOf_65 hl (by decide) rfl (fun ls hl => ?_)
          refine lv_iload hx hb d_PM_needKeysOf_67 (lv_at hl 0 rfl) ?_
          refine lv_if_ne (tgt := 82) hx hb d_PM_needKeysOf_69 (by decide) (fun c23 => ?_) (fun c23 => ?_)
          · rw [if_neg c23] at h
            exact tx_leafv h (W.vret hx hb hr (fun t ht _ => qt_v h ht) (fun _ hq => nomatch hq) d_PM_needKeysOf_82)
          · rw [if_pos c23] at h
            exact tx_lnv h (by decide) (nw_PM_198_203 C hfl hTE (hml.trans hl.1.symm) d_PM_needKeysOf_72 d_PM_needKeysOf_75 d_PM_needKeysOf_76 d_PM_needKeysOf_78 d_PM_needKeysOf_81 (covers_of_empty hne _) hlocks (cE_v1 h (by decide)) ⟨Nat.le_of_ble_eq_true rfl, Nat.le_of_ble_eq_true rfl⟩ (Nat.le_of_ble_eq_true rfl) (fun t t9 => qt_xv h (by decide) t9))
        · rw [if_pos c15] at h
          refine lv_aload_n hx hb d_PM_needKeysOf_37 rfl (lv_at hl 0 rfl) ?_
          refine gf_PM_51 C hP d_PM_needKeysOf_38 ?_
          refine lv_iload_n hx hb d_PM_needKeysOf_41 rfl (lv_at hl 1 rfl) ?_
          obtain ⟨hin, h⟩ := gd_some h
          refine al_7 C hP hin d_PM_needKeysOf_42 ?_
          refine lv_if_eq (tgt := 64) hx hb d_PM_needKeysOf_43 (by decide) (fun c16 => ?_) (fun c16 => ?_)
          · rw [if_pos c16] at h
            refine lv_iconst (v := 0) hx hb d_PM_needKeysOf_64 (by decide) ?_
            refine lv_istore (lv' := [(5, .int 0), (0, .ref (ad 0)), (2, .int x2), (3, .int x3), (4, .int x4)]) hx hb d_PM_needKeysOf_65 hl (by decide) rfl (fun ls hl => ?_)
            refine lv_iload hx hb d_PM_needKeysOf_67 (lv_at hl 0 rfl) ?_
            refine lv_if_ne (tgt := 82) hx hb d_PM_needKeysOf_69 (by decide) (fun c22 => ?_) (fun c22 => ?_)
            · rw [if_neg c22] at h
              exact tx_leafv h (W.vret hx hb hr (fun t ht _ => qt_v h ht) (fun _ hq => nomatch hq) d_PM_needKeysOf_82)
            · rw [if_pos c22] at h
              exact tx_lnv h (by decide) (nw_PM_198_203 C hfl hTE (hml.trans hl.1.symm) d_PM_needKeysOf_72 d_PM_needKeysOf_75 d_PM_needKeysOf_76 d_PM_needKeysOf_78 d_PM_needKeysOf_81 (covers_of_empty hne _) hlocks (cE_v1 h (by decide)) ⟨Nat.le_of_ble_eq_true rfl, Nat.le_of_ble_eq_true rfl⟩ (Nat.le_of_ble_eq_true rfl) (fun t t9 => qt_xv h (by decide) t9))
          · rw [if_neg c16] at h
            refine lv_aload_n hx hb d_PM_needKeysOf_46 rfl (lv_at hl 0 rfl) ?_
            refine gf_PM_51 C hP d_PM_needKeysOf_47 ?_
            refine lv_iload_n hx hb d_PM_needKeysOf_50 rfl (lv_at hl 2 rfl) ?_
            obtain ⟨hin, h⟩ := gd_some h
            refine al_7 C hP hin d_PM_needKeysOf_51 ?_
            refine lv_if_eq (tgt := 64) hx hb d_PM_needKeysOf_52 (by decide) (fun c17 => ?_) (fun c17 => ?_)
            · rw [if_pos c17] at h
              refine lv_iconst (v := 0) hx hb d_PM_needKeysOf_64 (by decide) ?_
              refine lv_istore (lv' := [(5, .int 0), (0, .ref (ad 0)), (2, .int x2), (3, .int x3), (4, .int x4)]) hx hb d_PM_needKeysOf_65 hl (by decide) rfl (fun ls hl => ?_)
              refine lv_iload hx hb d_PM_needKeysOf_67 (lv_at hl 0 rfl) ?_
              refine lv_if_ne (tgt := 82) hx hb d_PM_needKeysOf_69 (by decide) (fun c21 => ?_) (fun c21 => ?_)
              · rw [if_neg c21] at h
                exact tx_leafv h (W.vret hx hb hr (fun t ht _ => qt_v h ht) (fun _ hq => nomatch hq) d_PM_needKeysOf_82)
              · rw [if_pos c21] at h
                exact tx_lnv h (by decide) (nw_PM_198_203 C hfl hTE (hml.trans hl.1.symm) d_PM_needKeysOf_72 d_PM_needKeysOf_75 d_PM_needKeysOf_76 d_PM_needKeysOf_78 d_PM_needKeysOf_81 (covers_of_empty hne _) hlocks (cE_v1 h (by decide)) ⟨Nat.le_of_ble_eq_true rfl, Nat.le_of_ble_eq_true rfl⟩ (Nat.le_of_ble_eq_true rfl) (fun t t9 => qt_xv h (by decide) t9))
            · rw [if_neg c17] at h
              refine lv_iload_n hx hb d_PM_needKeysOf_55 rfl (lv_at hl 1 rfl) ?_
              refine lv_iload_n hx hb d_PM_needKeysOf_56 rfl (lv_at hl 2 rfl) ?_
              refine lv_icmp_eq (tgt := 64) hx hb d_PM_needKeysOf_57 (by decide) (fun c18 => ?_) (fun c18 => ?_)
              · rw [if_pos c18] at h
                refine lv_iconst (v := 0) hx hb d_PM_needKeysOf_64 (by decide) ?_
                refine lv_istore (lv' := [(5, .int 0), (0, .ref (ad 0)), (2, .int x2), (3, .int x3), (4, .int x4)]) hx hb d_PM_needKeysOf_65 hl (by decide) rfl (fun ls hl => ?_)
                refine lv_iload hx hb d_PM_needKeysOf_67 (lv_at hl 0 rfl) ?_
                refine lv_if_ne (tgt := 82) hx hb d_PM_needKeysOf_69 (by decide) (fun c20 => ?_) (fun c20 => ?_)
                · rw [if_neg c20] at h
                  exact tx_leafv h (W.vret hx hb hr (fun t ht _ => qt_v h ht) (fun _ hq => nomatch hq) d_PM_needKeysOf_82)
                · rw [if_pos c20] at h
                  exact tx_lnv h (by decide) (nw_PM_198_203 C hfl hTE (hml.trans hl.1.symm) d_PM_needKeysOf_72 d_PM_needKeysOf_75 d_PM_needKeysOf_76 d_PM_needKeysOf_78 d_PM_needKeysOf_81 (covers_of_empty hne _) hlocks (cE_v1 h (by decide)) ⟨Nat.le_of_ble_eq_true rfl, Nat.le_of_ble_eq_true rfl⟩ (Nat.le_of_ble_eq_true rfl) (fun t t9 => qt_xv h (by decide) t9))
              · rw [if_neg c18] at h
                refine lv_iconst (v := 1) hx hb d_PM_needKeysOf_60 (by decide) ?_
                refine lv_goto (tgt := 65) hx hb d_PM_needKeysOf_61 (by decide) ?_
                refine lv_istore (lv' := [(5, .int 1), (0, .ref (ad 0)), (2, .int x2), (3, .int x3), (4, .int x4)]) hx hb d_PM_needKeysOf_65 hl (by decide) rfl (fun ls hl => ?_)
                refine lv_iload hx hb d_PM_needKeysOf_67 (lv_at hl 0 rfl) ?_
                refine lv_if_ne (tgt := 82) hx hb d_PM_needKeysOf_69 (by decide) (fun c19 => ?_) (fun c19 => ?_)
                · rw [if_neg c19] at h
                  exact tx_leafv h (W.vret hx hb hr (fun t ht _ => qt_v h ht) (fun _ hq => nomatch hq) d_PM_needKeysOf_82)
                · rw [if_pos c19] at h
                  exact tx_lnv h (by decide) (nw_PM_198_203 C hfl hTE (hml.trans hl.1.symm) d_PM_needKeysOf_72 d_PM_needKeysOf_75 d_PM_needKeysOf_76 d_PM_needKeysOf_78 d_PM_needKeysOf_81 (covers_of_empty hne _) hlocks (cE_v1 h (by decide)) ⟨Nat.le_of_ble_eq_true rfl, Nat.le_of_ble_eq_true rfl⟩ (Nat.le_of_ble_eq_true rfl) (fun t t9 => qt_xv h (by decide) t9))
      exact k31 a2 a3 y1 h _ (lv_sub hl [1, 3, 4, 0] rfl)
    · rw [if_pos c3] at h
      refine lv_aload_n hx hb d_PM_needKeysOf_22 rfl (lv_at hl 1 rfl) ?_
      refine gf_PM_51 C hP d_PM_needKeysOf_23 ?_
      refine lv_iload_n hx hb d_PM_needKeysOf_26 rfl (lv_at hl 3 rfl) ?_
      obtain ⟨hin, h⟩ := gd_some h
      refine al_7 C hP hin d_PM_needKeysOf_27 ?_
      refine lv_if_ne (tgt := 60) hx hb d_PM_needKeysOf_28 (by decide) (fun c4 => ?_) (fun c4 => ?_)
      · rw [if_neg c4] at h
        refine lv_iconst (v := 1) hx hb d_PM_needKeysOf_60 (by decide) ?_
        refine lv_goto (tgt := 65) hx hb d_PM_needKeysOf_61 (by decide) ?_
        refine lv_istore (lv' := [(5, .int 1), (4, .int y1), (0, .ref (ad 0)), (1, .int a1), (2, .int a2), (3, .int a3)]) hx hb d_PM_needKeysOf_65 hl (by decide) rfl (fun ls hl => ?_)
        refine lv_iload hx hb d_PM_needKeysOf_67 (lv_at hl 0 rfl) ?_
        refine lv_if_ne (tgt := 82) hx hb d_PM_needKeysOf_69 (by decide) (fun c14 => ?_) (fun c14 => ?_)
        · rw [if_neg c14] at h
          exact tx_leafv h (W.vret hx hb hr (fun t ht _ => qt_v h ht) (fun _ hq => nomatch hq) d_PM_needKeysOf_82)
        · rw [if_pos c14] at h
          exact tx_lnv h (by decide) (nw_PM_198_203 C hfl hTE (hml.trans hl.1.symm) d_PM_needKeysOf_72 d_PM_needKeysOf_75 d_PM_needKeysOf_76 d_PM_needKeysOf_78 d_PM_needKeysOf_81 (covers_of_empty hne _) hlocks (cE_v1 h (by decide)) ⟨Nat.le_of_ble_eq_true rfl, Nat.le_of_ble_eq_true rfl⟩ (Nat.le_of_ble_eq_true rfl) (fun t t9 => qt_xv h (by decide) t9))
      · rw [if_pos c4] at h
        have k31 : ∀ (x2 : Int32) (x3 : Int32) (x4 : Int32) (h : C_PM_needKeysOf_31 σ x2 x3 x4 = some out) (ls : Array Slot) (hl : lv_has ls 6 [(0, .ref (ad 0)), (2, .int x2), (3, .int x3), (4, .int x4)]), W p l e (headSpec wl_PM_needKeysOf (rmE 6 90 out)).room s m (([.ref (ad 0), .int a1, .int a2, .int a3] : List Value).toArray) below meth c s.heap [] 0 0 (tx_MQ below (QTv out) (([.ref (ad 0), .int a1, .int a2, .int a3] : List Value).toArray) s (cE out) (6 * cE out) (fun _ => False)) (F0 m 31 ls []) := by
          intro x2 x3 x4 h ls hl
          unfold C_PM_needKeysOf_31 at h
          refine lv_iload hx hb d_PM_needKeysOf_31 (lv_at hl 3 rfl) ?_
          refine lv_iconst (v := 2) hx hb d_PM_needKeysOf_33 (by decide) ?_
          refine lv_icmp_ne (tgt := 64) hx hb d_PM_needKeysOf_34 (by decide) (fun c5 => ?_) (fun c5 => ?_)
          · rw [if_neg c5] at h
            refine lv_iconst (v := 0) hx hb d_PM_needKeysOf_64 (by decide) ?_
            refine lv_istore (lv' := [(5, .int 0), (0, .ref (ad 0)), (2, .int x2), (3, .int x3), (4, .int x4)]) hx hb d_PM_needKeysOf_65 hl (by decide) rfl (fun ls hl => ?_)
            refine lv_iload hx hb d_PM_needKeysOf_67 (lv_at hl 0 rfl) ?_
            refine lv_if_ne (tgt := 82) hx hb d_PM_needKeysOf_69 (by decide) (fun c13 => ?_) (fun c13 => ?_)
            · rw [if_neg c13] at h
              exact tx_leafv h (W.vret hx hb hr (fun t ht _ => qt_v h ht) (fun _ hq => nomatch hq) d_PM_needKeysOf_82)
            · rw [if_pos c13] at h
              exact tx_lnv h (by decide) (nw_PM_198_203 C hfl hTE (hml.trans hl.1.symm) d_PM_needKeysOf_72 d_PM_needKeysOf_75 d_PM_needKeysOf_76 d_PM_needKeysOf_78 d_PM_needKeysOf_81 (covers_of_empty hne _) hlocks (cE_v1 h (by decide)) ⟨Nat.le_of_ble_eq_true rfl, Nat.le_of_ble_eq_true rfl⟩ (Nat.le_of_ble_eq_true rfl) (fun t t9 => qt_xv h (by decide) t9))
          · rw [if_pos c5] at h
            refine lv_aload_n hx hb d_PM_needKeysOf_37 rfl (lv_at hl 0 rfl) ?_
            refine gf_PM_51 C hP d_PM_needKeysOf_38 ?_
            refine lv_iload_n hx hb d_PM_needKeysOf_41 rfl (lv_at hl 1 rfl) ?_
            obtain ⟨hin, h⟩ := gd_some h
            refine al_7 C hP hin d_PM_needKeysOf_42 ?_
            refine lv_if_eq (tgt := 64) hx hb d_PM_needKeysOf_43 (by decide) (fun c6 => ?_) (fun c6 => ?_)
            · rw [if_pos c6] at h
              refine lv_iconst (v := 0) hx hb d_PM_needKeysOf_64 (by decide) ?_
              refine lv_istore (lv' := [(5, .int 0), (0, .ref (ad 0)), (2, .int x2), (3, .int x3), (4, .int x4)]) hx hb d_PM_needKeysOf_65 hl (by decide) rfl (fun ls hl => ?_)
              refine lv_iload hx hb d_PM_needKeysOf_67 (lv_at hl 0 rfl) ?_
              refine lv_if_ne (tgt := 82) hx hb d_PM_needKeysOf_69 (by decide) (fun c12 => ?_) (fun c12 => ?_)
              · rw [if_neg c12] at h
                exact tx_leafv h (W.vret hx hb hr (fun t ht _ => qt_v h ht) (fun _ hq => nomatch hq) d_PM_needKeysOf_82)
              · rw [if_pos c12] at h
                exact tx_lnv h (by decide) (nw_PM_198_203 C hfl hTE (hml.trans hl.1.symm) d_PM_needKeysOf_72 d_PM_needKeysOf_75 d_PM_needKeysOf_76 d_PM_needKeysOf_78 d_PM_needKeysOf_81 (covers_of_empty hne _) hlocks (cE_v1 h (by decide)) ⟨Nat.le_of_ble_eq_true rfl, Nat.le_of_ble_eq_true rfl⟩ (Nat.le_of_ble_eq_true rfl) (fun t t9 => qt_xv h (by decide) t9))
            · rw [if_neg c6] at h
              refine lv_aload_n hx hb d_PM_needKeysOf_46 rfl (lv_at hl 0 rfl) ?_
              refine gf_PM_51 C hP d_PM_needKeysOf_47 ?_
              refine lv_iload_n hx hb d_PM_needKeysOf_50 rfl (lv_at hl 2 rfl) ?_
              obtain ⟨hin, h⟩ := gd_some h
              refine al_7 C hP hin d_PM_needKeysOf_51 ?_
              refine lv_if_eq (tgt := 64) hx hb d_PM_needKeysOf_52 (by decide) (fun c7 => ?_) (fun c7 => ?_)
              · rw [if_pos c7] at h
                refine lv_iconst (v := 0) hx hb d_PM_needKeysOf_64 (by decide) ?_
                refine lv_istore (lv' := [(5, .int 0), (0, .ref (ad 0)), (2, .int x2), (3, .int x3), (4, .int x4)]) hx hb d_PM_needKeysOf_65 hl (by decide) rfl (fun ls hl => ?_)
                refine lv_iload hx hb d_PM_needKeysOf_67 (lv_at hl 0 rfl) ?_
                refine lv_if_ne (tgt := 82) hx hb d_PM_needKeysOf_69 (by decide) (fun c11 => ?_) (fun c11 => ?_)
                · rw [if_neg c11] at h
                  exact tx_leafv h (W.vret hx hb hr (fun t ht _ => qt_v h ht) (fun _ hq => nomatch hq) d_PM_needKeysOf_82)
                · rw [if_pos c11] at h
                  exact tx_lnv h (by decide) (nw_PM_198_203 C hfl hTE (hml.trans hl.1.symm) d_PM_needKeysOf_72 d_PM_needKeysOf_75 d_PM_needKeysOf_76 d_PM_needKeysOf_78 d_PM_needKeysOf_81 (covers_of_empty hne _) hlocks (cE_v1 h (by decide)) ⟨Nat.le_of_ble_eq_true rfl, Nat.le_of_ble_eq_true rfl⟩ (Nat.le_of_ble_eq_true rfl) (fun t t9 => qt_xv h (by decide) t9))
              · rw [if_neg c7] at h
                refine lv_iload_n hx hb d_PM_needKeysOf_55 rfl (lv_at hl 1 rfl) ?_
                refine lv_iload_n hx hb d_PM_needKeysOf_56 rfl (lv_at hl 2 rfl) ?_
                refine lv_icmp_eq (tgt := 64) hx hb d_PM_needKeysOf_57 (by decide) (fun c8 => ?_) (fun c8 => ?_)
                · rw [if_pos c8] at h
                  refine lv_iconst (v := 0) hx hb d_PM_needKeysOf_64 (by decide) ?_
                  refine lv_istore (lv' := [(5, .int 0), (0, .ref (ad 0)), (2, .int x2), (3, .int x3), (4, .int x4)]) hx hb d_PM_needKeysOf_65 hl (by decide) rfl (fun ls hl => ?_)
                  refine lv_iload hx hb d_PM_needKeysOf_67 (lv_at hl 0 rfl) ?_
                  refine lv_if_ne (tgt := 82) hx hb d_PM_needKeysOf_69 (by decide) (fun c10 => ?_) (fun c10 => ?_)
                  · rw [if_neg c10] at h
                    exact tx_leafv h (W.vret hx hb hr (fun t ht _ => qt_v h ht) (fun _ hq => nomatch hq) d_PM_needKeysOf_82)
                  · rw [if_pos c10] at h
                    exact tx_lnv h (by decide) (nw_PM_198_203 C hfl hTE (hml.trans hl.1.symm) d_PM_needKeysOf_72 d_PM_needKeysOf_75 d_PM_needKeysOf_76 d_PM_needKeysOf_78 d_PM_needKeysOf_81 (covers_of_empty hne _) hlocks (cE_v1 h (by decide)) ⟨Nat.le_of_ble_eq_true rfl, Nat.le_of_ble_eq_true rfl⟩ (Nat.le_of_ble_eq_true rfl) (fun t t9 => qt_xv h (by decide) t9))
                · rw [if_neg c8] at h
                  refine lv_iconst (v := 1) hx hb d_PM_needKeysOf_60 (by decide) ?_
                  refine lv_goto (tgt := 65) hx hb d_PM_needKeysOf_61 (by decide) ?_
                  refine lv_istore (lv' := [(5, .int 1), (0, .ref (ad 0)), (2, .int x2), (3, .int x3), (4, .int x4)]) hx hb d_PM_needKeysOf_65 hl (by decide) rfl (fun ls hl => ?_)
                  refine lv_iload hx hb d_PM_needKeysOf_67 (lv_at hl 0 rfl) ?_
                  refine lv_if_ne (tgt := 82) hx hb d_PM_needKeysOf_69 (by decide) (fun c9 => ?_) (fun c9 => ?_)
                  · rw [if_neg c9] at h
                    exact tx_leafv h (W.vret hx hb hr (fun t ht _ => qt_v h ht) (fun _ hq => nomatch hq) d_PM_needKeysOf_82)
                  · rw [if_pos c9] at h
                    exact tx_lnv h (by decide) (nw_PM_198_203 C hfl hTE (hml.trans hl.1.symm) d_PM_needKeysOf_72 d_PM_needKeysOf_75 d_PM_needKeysOf_76 d_PM_needKeysOf_78 d_PM_needKeysOf_81 (covers_of_empty hne _) hlocks (cE_v1 h (by decide)) ⟨Nat.le_of_ble_eq_true rfl, Nat.le_of_ble_eq_true rfl⟩ (Nat.le_of_ble_eq_true rfl) (fun t t9 => qt_xv h (by decide) t9))
        exact k31 a2 a3 y1 h _ (lv_sub hl [1, 3, 4, 0] rfl)
section RC
variable {p : Program} {l : Launch} {e : Env} {R : Room} {s : State} {m : MethodId} {args : Array Value} {below : List Frame} {meth : Method} {c : Code} {H : Heap} {locs : List Loc} {cells slots : Nat} {Q : State → Prop}
variable {cc : ByteArray} {pc : Nat} {ls : Array Slot} {rest : List Value} {G : va_G} {ad : Nat → Nat} {cI cZ : ClassId} {σ : Sg} {own : String}
theorem cl_PM_102 {b0 : Nat} (C : CX "PlaceMoves" cc p s m args c G cI cZ) (hfl : l.flags = pinnedFlags ++ [noTraceFlag]) (hTE : TE b0 s H) (hml : c.maxLocals = ls.size) (hP : va_P G clX (wX ad cI cZ σ) H) {x1 : Int32} {x2 : Int32} {x3 : Int32} {r : Nat} (hg : f_PM_needKeysOf σ x1 x2 x3 = some r) (z : r = 0) (hR : 6 + 1 ≤ R.frames ∧ 8 + (6 + 11) + 90 ≤ R.locals) (hrest : (rest.map fun v => v.category).sum ≤ 8) (hd : decode cc pc = .ok (.invokevirtual 102, 3)) (hcs : cells + 0 ≤ R.cells ∧ slots + 0 ≤ R.slots) (kk : W p l e R s m args below meth c H locs cells slots Q (F0 m (pc + 3) ls rest)) : W p l e R s m args below meth c H locs cells slots Q (F0 m pc ls (.int x3 :: .int x2 :: .int x1 :: .ref (ad 0) :: rest)) := by
  have M := c_PM_needKeysOf l hfl b0 G ad cI cZ σ x1 x2 x3 r hg
  rw [z] at M
  exact tx_call0 (v0 := none) (W.runV (As := [.int x1, .int x2, .int x3]) (rest := rest) ⟨C.1, C.2.1, hml, C.2.2.1, C.2.2.2.1⟩ (tx_toMet M (fun _ _ _ _ q9 => ⟨_, (q9.1 rfl).1⟩)) (cwV 3 C.2.2.2.1 (wg_V w_390 w_392 ws_4 w_1 w_393) rfl rfl rfl (by decide +kernel) hR) ⟨PcT.blind, va_recv C.2.2.2.2.1 hP (ci := 0) (q0 := 0) rfl rfl, fun U hU hZ => ⟨rfl, by rw [hU]; exact hP, C.2.2.2.2.warm hZ, by rw [hU]; exact hTE.warm hZ⟩⟩ rfl rfl rfl rfl (lv_room hrest) hd hcs) (fun _ _ _ q9 => q9.1 rfl) kk
theorem cl_PM_102_x {Qd : Array Value → State → Outcome → State → Prop} {b0 : Nat} (C : CX "PlaceMoves" cc p s m args c G cI cZ) (hfl : l.flags = pinnedFlags ++ [noTraceFlag]) (hTE : TE b0 s H) (hml : c.maxLocals = ls.size) (hP : va_P G clX (wX ad cI cZ σ) H) {x1 : Int32} {x2 : Int32} {x3 : Int32} {r : Nat} (hg : f_PM_needKeysOf σ x1 x2 x3 = some r) (z : ¬ r = 0) (hR : 6 + 1 ≤ R.frames ∧ 8 + (6 + 11) + 90 ≤ R.locals) (hrest : (rest.map fun v => v.category).sum ≤ 8) (hd : decode cc pc = .ok (.invokevirtual 102, 3)) (hout : ∀ x ∈ c.exceptionTable.toList, covers x pc = false) (hlocks : meth.locks = false) (hcs : 0 + cE r ≤ R.cells ∧ 0 + 6 * cE r ≤ R.slots) (kq : ∀ (q : Addr) (u : State), Thr r H (.threw q) u → Qd args s (.threw q) u) {free : Addr → Prop} (hf1 : ∀ z ∈ locs, free z.base := by exact fun _ hq => nomatch hq) : W p l e R s m args below meth c H locs 0 0 (tx_MQ below Qd args s (0 + cE r) (0 + 6 * cE r) free) (F0 m pc ls (.int x3 :: .int x2 :: .int x1 :: .ref (ad 0) :: rest)) :=
  tx_Vout (As := [.int x1, .int x2, .int x3]) (rest := rest) ⟨C.1, C.2.1, hml, C.2.2.1, C.2.2.2.1⟩ (c_PM_needKeysOf l hfl b0 G ad cI cZ σ x1 x2 x3 r hg) (cwV 3 C.2.2.2.1 (wg_V w_390 w_392 ws_4 w_1 w_393) rfl rfl rfl (by decide +kernel) hR) ⟨PcT.blind, va_recv C.2.2.2.2.1 hP (ci := 0) (q0 := 0) rfl rfl, fun U hU hZ => ⟨rfl, by rw [hU]; exact hP, C.2.2.2.2.warm hZ, by rw [hU]; exact hTE.warm hZ⟩⟩ (fun _ _ _ _ q9 => by obtain ⟨q, _, e9, _⟩ := q9.2 z; exact ⟨q, e9⟩) rfl rfl rfl rfl rfl rfl (lv_room hrest) hd hcs hout hlocks (fun q st t u hst q9 hu hv => kq q u (Thr.shift (by rw [← hst]; exact q9.2 z) hu hv)) hf1 (fun _ z9 => z9.elim)
end RC
abbrev wl_PM_where : List Cond := .code ⟨"PlaceMoves", "where", "(II)I"⟩ prog_1_method_10_code 3 (some FieldType.int) :: WG
set_option maxHeartbeats 4000000 in
set_option maxRecDepth 100000 in
theorem c_PM_where (l : Launch) (hfl : l.flags = pinnedFlags ++ [noTraceFlag]) (b0 : Nat) (G : va_G) (ad : Nat → Nat) (cI cZ : ClassId) (σ : Sg) (a1 : Int32) (a2 : Int32) (out : Nat × Int32) (h : f_PM_where σ a1 a2 = some out) : tx_Met l ⟨"PlaceMoves", "where", "(II)I"⟩ wl_PM_where (rmE 8 132 out.1) (PcT b0 G ad cI cZ σ [.ref (ad 0), .int a1, .int a2]) (QTi out) (cE out.1) (6 * cE out.1) (fun _ => False) := by
  refine tx_ofW (cc := prog_1_method_10_code) (maxL := 3) (ret := (some FieldType.int)) (by decide) rfl ?_
  intro p e s m args below meth c s₁ B hml hv
  obtain ⟨rfl, hP, hK, hTE⟩ := hv
  have hx := B.exec
  have hb := B.bytes
  have hr := B.returns
  have hts0 := atoms_spec (ws := wl_PM_where) B.pre
  have hts : ∀ w ∈ WG, w.before _ s = true := fun w hw => hts0 w (List.mem_cons_of_mem _ hw)
  have hne := B.noHandlers (hts0 _ List.mem_cons_self)
  have hown : s.vm.findClass "PlaceMoves" = some m.cls := findClass_of_methodNamed B.named
  have hlocks := B.notSynchronized
  have C : CX "PlaceMoves" prog_1_method_10_code p s m _ c G cI cZ := ⟨hx, hb, hown, hts, hK⟩
  have hl := lv_entry ([.ref (ad 0), .int a1, .int a2]) (n := 3) (Nat.le_of_ble_eq_true rfl)
  rw [lg_entry_eq]
  generalize (lg_sl ([.ref (ad 0), .int a1, .int a2]) ++ List.replicate (3 - (lg_sl ([.ref (ad 0), .int a1, .int a2])).length) Slot.unset).toArray = ls at hl ⊢
  have hl : lv_has ls 3 [(0, .ref (ad 0)), (1, .int a1), (2, .int a2)] := hl
  unfold f_PM_where at h
  refine lv_aload_n hx hb d_PM_where_0 rfl (lv_at hl 0 rfl) ?_
  refine lv_iload_n hx hb d_PM_where_1 rfl (lv_at hl 1 rfl) ?_
  obtain ⟨r1, g_r1, h⟩ := ob_some h
  by_cases z_r1 : r1 = 0
  · rw [if_pos z_r1] at h
    refine cl_PM_88 (rest := []) C hfl hTE (hml.trans hl.1.symm) hP g_r1 z_r1 ⟨Nat.le_of_ble_eq_true rfl, Nat.le_of_ble_eq_true rfl⟩ (Nat.le_of_ble_eq_true rfl) d_PM_where_2 ⟨Nat.zero_le _, Nat.zero_le _⟩ ?_
    refine lv_aload_n hx hb d_PM_where_5 rfl (lv_at hl 0 rfl) ?_
    refine lv_iload_n hx hb d_PM_where_6 rfl (lv_at hl 1 rfl) ?_
    refine lv_iload_n hx hb d_PM_where_7 rfl (lv_at hl 2 rfl) ?_
    obtain ⟨r2, g_r2, h⟩ := ob_some h
    refine cl_PM_105 (rest := []) C (hml.trans hl.1.symm) hP g_r2 ⟨Nat.le_of_ble_eq_true rfl, Nat.le_of_ble_eq_true rfl⟩ (Nat.le_of_ble_eq_true rfl) d_PM_where_8 ⟨Nat.zero_le _, Nat.zero_le _⟩ ?_
    exact tx_leafi h (W.iret hx hb hr (fun t ht _ => qt_i h ht) (fun _ hq => nomatch hq) d_PM_where_11)
  · rw [if_neg z_r1] at h
    exact tx_lpi h (cl_PM_88_x (rest := []) C hfl hTE (hml.trans hl.1.symm) hP g_r1 z_r1 ⟨Nat.le_of_ble_eq_true rfl, Nat.le_of_ble_eq_true rfl⟩ (Nat.le_of_ble_eq_true rfl) d_PM_where_2 (covers_of_empty hne _) hlocks (cE_i h) (fun _ _ t9 => qt_xi h z_r1 t9))
end
section
abbrev wl_PM_last : List Cond := .code ⟨"PlaceMoves", "last", "(I)I"⟩ prog_1_method_11_code 5 (some FieldType.int) :: WG
set_option maxHeartbeats 4000000 in
set_option maxRecDepth 100000 in
theorem c_PM_last (l : Launch) (hfl : l.flags = pinnedFlags ++ [noTraceFlag]) (b0 : Nat) (G : va_G) (ad : Nat → Nat) (cI cZ : ClassId) (σ : Sg) (a1 : Int32) (out : Nat × Int32) (h : f_PM_last σ a1 = some out) : tx_Met l ⟨"PlaceMoves", "last", "(I)I"⟩ wl_PM_last (rmE 8 132 out.1) (PcT b0 G ad cI cZ σ [.ref (ad 0), .int a1]) (QTi out) (cE out.1) (6 * cE out.1) (fun _ => False) := by
  refine tx_ofW (cc := prog_1_method_11_code) (maxL := 5) (ret := (some FieldType.int)) (by decide) rfl ?_
  intro p e s m args below meth c s₁ B hml hv
  obtain ⟨rfl, hP, hK, hTE⟩ := hv
  have hx := B.exec
  have hb := B.bytes
  have hr := B.returns
  have hts0 := atoms_spec (ws := wl_PM_last) B.pre
  have hts : ∀ w ∈ WG, w.before _ s = true := fun w hw => hts0 w (List.mem_cons_of_mem _ hw)
  have hne := B.noHandlers (hts0 _ List.mem_cons_self)
  have hown : s.vm.findClass "PlaceMoves" = some m.cls := findClass_of_methodNamed B.named
  have hlocks := B.notSynchronized
  have C : CX "PlaceMoves" prog_1_method_11_code p s m _ c G cI cZ := ⟨hx, hb, hown, hts, hK⟩
  have hl := lv_entry ([.ref (ad 0), .int a1]) (n := 5) (Nat.le_of_ble_eq_true rfl)
  rw [lg_entry_eq]
  generalize (lg_sl ([.ref (ad 0), .int a1]) ++ List.replicate (5 - (lg_sl ([.ref (ad 0), .int a1])).length) Slot.unset).toArray = ls at hl ⊢
  have hl : lv_has ls 5 [(0, .ref (ad 0)), (1, .int a1)] := hl
  unfold f_PM_last at h
  refine lv_aload_n hx hb d_PM_last_0 rfl (lv_at hl 0 rfl) ?_
  refine lv_iload_n hx hb d_PM_last_1 rfl (lv_at hl 1 rfl) ?_
  obtain ⟨r1, g_r1, h⟩ := ob_some h
  by_cases z_r1 : r1 = 0
  · rw [if_pos z_r1] at h
    refine cl_PM_88 (rest := []) C hfl hTE (hml.trans hl.1.symm) hP g_r1 z_r1 ⟨Nat.le_of_ble_eq_true rfl, Nat.le_of_ble_eq_true rfl⟩ (Nat.le_of_ble_eq_true rfl) d_PM_last_2 ⟨Nat.zero_le _, Nat.zero_le _⟩ ?_
    refine lv_aload_n hx hb d_PM_last_5 rfl (lv_at hl 0 rfl) ?_
    refine gf_PM_59 C hP d_PM_last_6 ?_
    refine lv_istore_n (lv' := [(2, .int (σ 0 0)), (0, .ref (ad 0)), (1, .int a1)]) hx hb d_PM_last_9 rfl hl (by decide) rfl (fun ls hl => ?_)
    refine lv_iconst (v := 0) hx hb d_PM_last_10 (by decide) ?_
    refine lv_istore_n (lv' := [(3, .int 0), (2, .int (σ 0 0)), (0, .ref (ad 0)), (1, .int a1)]) hx hb d_PM_last_11 rfl hl (by decide) rfl (fun ls hl => ?_)
    have k12 : ∀ (n : Nat) (x1 : Int32) (x2 : Int32) (x3 : Int32) (h : L_PM_last_12 σ n x1 x2 x3 = some out) (ls : Array Slot) (hl : lv_has ls 5 [(0, .ref (ad 0)), (1, .int x1), (2, .int x2), (3, .int x3)]), W p l e (headSpec wl_PM_last (rmE 8 132 out.1)).room s m (([.ref (ad 0), .int a1] : List Value).toArray) below meth c s.heap [] 0 0 (tx_MQ below (QTi out) (([.ref (ad 0), .int a1] : List Value).toArray) s (cE out.1) (6 * cE out.1) (fun _ => False)) (F0 m 12 ls []) := by
      intro n
      induction n with
      | zero =>
        intro x1 x2 x3 h
        exact absurd h (by intro z; cases z)
      | succ n ih =>
        intro x1 x2 x3 h ls hl
        replace h : B_PM_last_12 σ (L_PM_last_12 σ n) x1 x2 x3 = some out := h
        unfold B_PM_last_12 at h
        refine lv_iload_n hx hb d_PM_last_12 rfl (lv_at hl 3 rfl) ?_
        refine lv_sipush (v := 800) hx hb d_PM_last_13 (by decide) ?_
        refine lv_icmp_gt (tgt := 55) hx hb d_PM_last_16 (by decide) (fun c2 => ?_) (fun c2 => ?_)
        · rw [if_pos c2] at h
          refine lv_iconst (v := (-1)) hx hb d_PM_last_55 (by decide) ?_
          exact tx_leafi h (W.iret hx hb hr (fun t ht _ => qt_i h ht) (fun _ hq => nomatch hq) d_PM_last_56)
        · rw [if_neg c2] at h
          refine lv_iload_n hx hb d_PM_last_19 rfl (lv_at hl 2 rfl) ?_
          refine lv_if_lt (tgt := 55) hx hb d_PM_last_20 (by decide) (fun c3 => ?_) (fun c3 => ?_)
          · rw [if_pos c3] at h
            refine lv_iconst (v := (-1)) hx hb d_PM_last_55 (by decide) ?_
            exact tx_leafi h (W.iret hx hb hr (fun t ht _ => qt_i h ht) (fun _ hq => nomatch hq) d_PM_last_56)
          · rw [if_neg c3] at h
            refine lv_aload_n hx hb d_PM_last_23 rfl (lv_at hl 0 rfl) ?_
            refine lv_iload_n hx hb d_PM_last_24 rfl (lv_at hl 1 rfl) ?_
            refine lv_iload_n hx hb d_PM_last_25 rfl (lv_at hl 2 rfl) ?_
            obtain ⟨r4, g_r4, h⟩ := ob_some h
            refine cl_PM_105 (rest := []) C (hml.trans hl.1.symm) hP g_r4 ⟨Nat.le_of_ble_eq_true rfl, Nat.le_of_ble_eq_true rfl⟩ (Nat.le_of_ble_eq_true rfl) d_PM_last_26 ⟨Nat.zero_le _, Nat.zero_le _⟩ ?_
            refine lv_istore (lv' := [(4, .int r4), (0, .ref (ad 0)), (1, .int x1), (2, .int x2), (3, .int x3)]) hx hb d_PM_last_29 hl (by decide) rfl (fun ls hl => ?_)
            refine lv_iload hx hb d_PM_last_31 (lv_at hl 0 rfl) ?_
            refine lv_iconst (v := (-1)) hx hb d_PM_last_33 (by decide) ?_
            refine lv_icmp_eq (tgt := 40) hx hb d_PM_last_34 (by decide) (fun c5 => ?_) (fun c5 => ?_)
            · rw [if_pos c5] at h
              refine lv_aload_n hx hb d_PM_last_40 rfl (lv_at hl 1 rfl) ?_
              refine lv_iload_n hx hb d_PM_last_41 rfl (lv_at hl 2 rfl) ?_
              refine lv_iload_n hx hb d_PM_last_42 rfl (lv_at hl 3 rfl) ?_
              obtain ⟨r6, g_r6, h⟩ := ob_some h
              refine cl_PM_129 (rest := []) C (hml.trans hl.1.symm) hP g_r6 ⟨Nat.le_of_ble_eq_true rfl, Nat.le_of_ble_eq_true rfl⟩ (Nat.le_of_ble_eq_true rfl) d_PM_last_43 ⟨Nat.zero_le _, Nat.zero_le _⟩ ?_
              refine lv_iconst (v := 1) hx hb d_PM_last_46 (by decide) ?_
              refine lv_isub hx hb d_PM_last_47 ?_
              refine lv_istore_n (lv' := [(2, .int (r6 - 1)), (4, .int r4), (0, .ref (ad 0)), (1, .int x1), (3, .int x3)]) hx hb d_PM_last_48 rfl hl (by decide) rfl (fun ls hl => ?_)
              refine lv_iinc (v := x3 + 1) (lv' := [(3, .int (x3 + 1)), (2, .int (r6 - 1)), (4, .int r4), (0, .ref (ad 0)), (1, .int x1)]) hx hb d_PM_last_49 hl (k := 4) rfl rfl (by decide) rfl (fun ls hl => ?_)
              refine lv_goto (tgt := 12) hx hb d_PM_last_52 (by decide) ?_
              exact ih x1 (r6 - 1) (x3 + 1) h _ (lv_sub hl [3, 4, 1, 0] rfl)
            · rw [if_neg c5] at h
              refine lv_iload hx hb d_PM_last_37 (lv_at hl 0 rfl) ?_
              exact tx_leafi h (W.iret hx hb hr (fun t ht _ => qt_i h ht) (fun _ hq => nomatch hq) d_PM_last_39)
    exact k12 _ a1 (σ 0 0) 0 h _ (lv_sub hl [2, 3, 1, 0] rfl)
  · rw [if_neg z_r1] at h
    exact tx_lpi h (cl_PM_88_x (rest := []) C hfl hTE (hml.trans hl.1.symm) hP g_r1 z_r1 ⟨Nat.le_of_ble_eq_true rfl, Nat.le_of_ble_eq_true rfl⟩ (Nat.le_of_ble_eq_true rfl) d_PM_last_2 (covers_of_empty hne _) hlocks (cE_i h) (fun _ _ t9 => qt_xi h z_r1 t9))
abbrev wl_PM_history : List Cond := .code ⟨"PlaceMoves", "history", "(III)I"⟩ prog_1_method_12_code 5 (some FieldType.int) :: WG
set_option maxHeartbeats 4000000 in
set_option maxRecDepth 100000 in
theorem c_PM_history (l : Launch) (hfl : l.flags = pinnedFlags ++ [noTraceFlag]) (b0 : Nat) (G : va_G) (ad : Nat → Nat) (cI cZ : ClassId) (σ : Sg) (a1 : Int32) (a2 : Int32) (a3 : Int32) (out : Nat × Int32) (h : f_PM_history σ a1 a2 a3 = some out) : tx_Met l ⟨"PlaceMoves", "history", "(III)I"⟩ wl_PM_history (rmE 8 132 out.1) (PcT b0 G ad cI cZ σ [.ref (ad 0), .int a1, .int a2, .int a3]) (QTi out) (cE out.1) (6 * cE out.1) (fun _ => False) := by
  refine tx_ofW (cc := prog_1_method_12_code) (maxL := 5) (ret := (some FieldType.int)) (by decide) rfl ?_
  intro p e s m args below meth c s₁ B hml hv
  obtain ⟨rfl, hP, hK, hTE⟩ := hv
  have hx := B.exec
  have hb := B.bytes
  have hr := B.returns
  have hts0 := atoms_spec (ws := wl_PM_history) B.pre
  have hts : ∀ w ∈ WG, w.before _ s = true := fun w hw => hts0 w (List.mem_cons_of_mem _ hw)
  have hne := B.noHandlers (hts0 _ List.mem_cons_self)
  have hown : s.vm.findClass "PlaceMoves" = some m.cls := findClass_of_methodNamed B.named
  have hlocks := B.notSynchronized
  have C : CX "PlaceMoves" prog_1_method_12_code p s m _ c G cI cZ := ⟨hx, hb, hown, hts, hK⟩
  have hl := lv_entry ([.ref (ad 0), .int a1, .int a2, .int a3]) (n := 5) (Nat.le_of_ble_eq_true rfl)
  rw [lg_entry_eq]
  generalize (lg_sl ([.ref (ad 0), .int a1, .int a2, .int a3]) ++ List.replicate (5 - (lg_sl ([.ref (ad 0), .int a1, .int a2, .int a3])).length) Slot.unset).toArray = ls at hl ⊢
  have hl : lv_has ls 5 [(0, .ref (ad 0)), (1, .int a1), (2, .int a2), (3, .int a3)] := hl
  unfold f_PM_history at h
  refine lv_aload_n hx hb d_PM_history_0 rfl (lv_at hl 0 rfl) ?_
  refine lv_iload_n hx hb d_PM_history_1 rfl (lv_at hl 1 rfl) ?_
  obtain ⟨r1, g_r1, h⟩ := ob_some h
  by_cases z_r1 : r1 = 0
  · rw [if_pos z_r1] at h
    refine cl_PM_88 (rest := []) C hfl hTE (hml.trans hl.1.symm) hP g_r1 z_r1 ⟨Nat.le_of_ble_eq_true rfl, Nat.le_of_ble_eq_true rfl⟩ (Nat.le_of_ble_eq_true rfl) d_PM_history_2 ⟨Nat.zero_le _, Nat.zero_le _⟩ ?_
    refine lv_iload_n hx hb d_PM_history_5 rfl (lv_at hl 2 rfl) ?_
    refine lv_aload_n hx hb d_PM_history_6 rfl (lv_at hl 0 rfl) ?_
    refine gf_PM_26 C hP d_PM_history_7 ?_
    refine gf_PM_100 C hP d_PM_history_10 ?_
    refine lv_iload_n hx hb d_PM_history_13 rfl (lv_at hl 1 rfl) ?_
    obtain ⟨hin, h⟩ := gd_some h
    refine al_17 C hP hin d_PM_history_14 ?_
    obtain ⟨r2, g_r2, h⟩ := ob_some h
    by_cases z_r2 : r2 = 0
    · rw [if_pos z_r2] at h
      refine cl_PM_132 (rest := []) C hfl hTE (hml.trans hl.1.symm) hP g_r2 z_r2 ⟨Nat.le_of_ble_eq_true rfl, Nat.le_of_ble_eq_true rfl⟩ (Nat.le_of_ble_eq_true rfl) d_PM_history_15 ⟨Nat.zero_le _, Nat.zero_le _⟩ ?_
      refine lv_iload_n hx hb d_PM_history_18 rfl (lv_at hl 3 rfl) ?_
      refine lv_iconst (v := 0) hx hb d_PM_history_19 (by decide) ?_
      refine lv_iconst (v := 2) hx hb d_PM_history_20 (by decide) ?_
      obtain ⟨r3, g_r3, h⟩ := ob_some h
      by_cases z_r3 : r3 = 0
      · rw [if_pos z_r3] at h
        refine cl_PM_68 (rest := []) C hfl hTE (hml.trans hl.1.symm) hP g_r3 z_r3 ⟨Nat.le_of_ble_eq_true rfl, Nat.le_of_ble_eq_true rfl⟩ (Nat.le_of_ble_eq_true rfl) d_PM_history_21 ⟨Nat.zero_le _, Nat.zero_le _⟩ ?_
        refine lv_iload_n hx hb d_PM_history_24 rfl (lv_at hl 1 rfl) ?_
        refine lv_iload_n hx hb d_PM_history_25 rfl (lv_at hl 2 rfl) ?_
        obtain ⟨r4, g_r4, h⟩ := ob_some h
        refine cl_PM_135 (rest := []) C (hml.trans hl.1.symm) hP g_r4 ⟨Nat.le_of_ble_eq_true rfl, Nat.le_of_ble_eq_true rfl⟩ (Nat.le_of_ble_eq_true rfl) d_PM_history_26 ⟨Nat.zero_le _, Nat.zero_le _⟩ ?_
        refine lv_istore (lv' := [(4, .int r4), (0, .ref (ad 0)), (1, .int a1), (2, .int a2), (3, .int a3)]) hx hb d_PM_history_29 hl (by decide) rfl (fun ls hl => ?_)
        refine lv_iload_n hx hb d_PM_history_31 rfl (lv_at hl 4 rfl) ?_
        refine lv_if_ne (tgt := 46) hx hb d_PM_history_32 (by decide) (fun c5 => ?_) (fun c5 => ?_)
        · rw [if_neg c5] at h
          refine lv_iload_n hx hb d_PM_history_46 rfl (lv_at hl 4 rfl) ?_
          refine lv_iconst (v := 1) hx hb d_PM_history_47 (by decide) ?_
          refine lv_icmp_ne (tgt := 64) hx hb d_PM_history_48 (by decide) (fun c6 => ?_) (fun c6 => ?_)
          · rw [if_neg c6] at h
            refine lv_aload_n hx hb d_PM_history_64 rfl (lv_at hl 1 rfl) ?_
            refine gf_PM_26 C hP d_PM_history_65 ?_
            refine gf_PM_141 C hP d_PM_history_68 ?_
            refine lv_iload hx hb d_PM_history_71 (lv_at hl 0 rfl) ?_
            obtain ⟨hin, h⟩ := gd_some h
            refine al_20 C hP hin d_PM_history_73 ?_
            exact tx_leafi h (W.iret hx hb hr (fun t ht _ => qt_i h ht) (fun _ hq => nomatch hq) d_PM_history_74)
          · rw [if_pos c6] at h
            refine lv_aload_n hx hb d_PM_history_51 rfl (lv_at hl 1 rfl) ?_
            refine gf_PM_26 C hP d_PM_history_52 ?_
            refine gf_PM_126 C hP d_PM_history_55 ?_
            refine lv_iload hx hb d_PM_history_58 (lv_at hl 0 rfl) ?_
            obtain ⟨hin, h⟩ := gd_some h
            refine al_19 C hP hin d_PM_history_60 ?_
            refine lv_goto (tgt := 74) hx hb d_PM_history_61 (by decide) ?_
            exact tx_leafi h (W.iret hx hb hr (fun t ht _ => qt_i h ht) (fun _ hq => nomatch hq) d_PM_history_74)
        · rw [if_pos c5] at h
          refine lv_aload_n hx hb d_PM_history_35 rfl (lv_at hl 1 rfl) ?_
          refine gf_PM_26 C hP d_PM_history_36 ?_
          refine gf_PM_138 C hP d_PM_history_39 ?_
          refine lv_iload hx hb d_PM_history_42 (lv_at hl 0 rfl) ?_
          obtain ⟨hin, h⟩ := gd_some h
          refine al_18 C hP hin d_PM_history_44 ?_
          exact tx_leafi h (W.iret hx hb hr (fun t ht _ => qt_i h ht) (fun _ hq => nomatch hq) d_PM_history_45)
      · rw [if_neg z_r3] at h
        exact tx_lpi h (cl_PM_68_x (rest := []) C hfl hTE (hml.trans hl.1.symm) hP g_r3 z_r3 ⟨Nat.le_of_ble_eq_true rfl, Nat.le_of_ble_eq_true rfl⟩ (Nat.le_of_ble_eq_true rfl) d_PM_history_21 (covers_of_empty hne _) hlocks (cE_i h) (fun _ _ t9 => qt_xi h z_r3 t9))
    · rw [if_neg z_r2] at h
      exact tx_lpi h (cl_PM_132_x (rest := []) C hfl hTE (hml.trans hl.1.symm) hP g_r2 z_r2 ⟨Nat.le_of_ble_eq_true rfl, Nat.le_of_ble_eq_true rfl⟩ (Nat.le_of_ble_eq_true rfl) d_PM_history_15 (covers_of_empty hne _) hlocks (cE_i h) (fun _ _ t9 => qt_xi h z_r2 t9))
  · rw [if_neg z_r1] at h
    exact tx_lpi h (cl_PM_88_x (rest := []) C hfl hTE (hml.trans hl.1.symm) hP g_r1 z_r1 ⟨Nat.le_of_ble_eq_true rfl, Nat.le_of_ble_eq_true rfl⟩ (Nat.le_of_ble_eq_true rfl) d_PM_history_2 (covers_of_empty hne _) hlocks (cE_i h) (fun _ _ t9 => qt_xi h z_r1 t9))
abbrev wl_PM_passes : List Cond := .code ⟨"PlaceMoves", "passes", "(II)Z"⟩ prog_1_method_14_code 3 (some FieldType.boolean) :: WG
set_option maxHeartbeats 4000000 in
set_option maxRecDepth 100000 in
theorem c_PM_passes (l : Launch) (hfl : l.flags = pinnedFlags ++ [noTraceFlag]) (b0 : Nat) (G : va_G) (ad : Nat → Nat) (cI cZ : ClassId) (σ : Sg) (a1 : Int32) (a2 : Int32) (out : Nat × Int32) (h : f_PM_passes σ a1 a2 = some out) : tx_Met l ⟨"PlaceMoves", "passes", "(II)Z"⟩ wl_PM_passes (rmE 8 132 out.1) (PcT b0 G ad cI cZ σ [.ref (ad 0), .int a1, .int a2]) (QTi out) (cE out.1) (6 * cE out.1) (fun _ => False) := by
  refine tx_ofW (cc := prog_1_method_14_code) (maxL := 3) (ret := (some FieldType.boolean)) (by decide) rfl ?_
  intro p e s m args below meth c s₁ B hml hv
  obtain ⟨rfl, hP, hK, hTE⟩ := hv
  have hx := B.exec
  have hb := B.bytes
  have hr := B.returns
  have hts0 := atoms_spec (ws := wl_PM_passes) B.pre
  have hts : ∀ w ∈ WG, w.before _ s = true := fun w hw => hts0 w (List.mem_cons_of_mem _ hw)
  have hne := B.noHandlers (hts0 _ List.mem_cons_self)
  have hown : s.vm.findClass "PlaceMoves" = some m.cls := findClass_of_methodNamed B.named
  have hlocks := B.notSynchronized
  have C : CX "PlaceMoves" prog_1_method_14_code p s m _ c G cI cZ := ⟨hx, hb, hown, hts, hK⟩
  have hl := lv_entry ([.ref (ad 0), .int a1, .int a2]) (n := 3) (Nat.le_of_ble_eq_true rfl)
  rw [lg_entry_eq]
  generalize (lg_sl ([.ref (ad 0), .int a1, .int a2]) ++ List.replicate (3 - (lg_sl ([.ref (ad 0), .int a1, .int a2])).length) Slot.unset).toArray = ls at hl ⊢
  have hl : lv_has ls 3 [(0, .ref (ad 0)), (1, .int a1), (2, .int a2)] := hl
  unfold f_PM_passes at h
  refine lv_aload_n hx hb d_PM_passes_0 rfl (lv_at hl 0 rfl) ?_
  refine lv_iload_n hx hb d_PM_passes_1 rfl (lv_at hl 1 rfl) ?_
  obtain ⟨r1, g_r1, h⟩ := ob_some h
  by_cases z_r1 : r1 = 0
  · rw [if_pos z_r1] at h
    refine cl_PM_88 (rest := []) C hfl hTE (hml.trans hl.1.symm) hP g_r1 z_r1 ⟨Nat.le_of_ble_eq_true rfl, Nat.le_of_ble_eq_true rfl⟩ (Nat.le_of_ble_eq_true rfl) d_PM_passes_2 ⟨Nat.zero_le _, Nat.zero_le _⟩ ?_
    refine lv_iload_n hx hb d_PM_passes_5 rfl (lv_at hl 2 rfl) ?_
    refine lv_aload_n hx hb d_PM_passes_6 rfl (lv_at hl 0 rfl) ?_
    refine gf_PM_33 C hP d_PM_passes_7 ?_
    refine gf_PM_151 C hP d_PM_passes_10 ?_
    obtain ⟨r2, g_r2, h⟩ := ob_some h
    by_cases z_r2 : r2 = 0
    · rw [if_pos z_r2] at h
      refine cl_PM_132 (rest := []) C hfl hTE (hml.trans hl.1.symm) hP g_r2 z_r2 ⟨Nat.le_of_ble_eq_true rfl, Nat.le_of_ble_eq_true rfl⟩ (Nat.le_of_ble_eq_true rfl) d_PM_passes_13 ⟨Nat.zero_le _, Nat.zero_le _⟩ ?_
      refine lv_aload_n hx hb d_PM_passes_16 rfl (lv_at hl 0 rfl) ?_
      refine lv_iload_n hx hb d_PM_passes_17 rfl (lv_at hl 1 rfl) ?_
      refine lv_iload_n hx hb d_PM_passes_18 rfl (lv_at hl 2 rfl) ?_
      obtain ⟨r3, g_r3, h⟩ := ob_some h
      refine cl_PM_153 (rest := []) C (hml.trans hl.1.symm) hP g_r3 ⟨Nat.le_of_ble_eq_true rfl, Nat.le_of_ble_eq_true rfl⟩ (Nat.le_of_ble_eq_true rfl) d_PM_passes_19 ⟨Nat.zero_le _, Nat.zero_le _⟩ ?_
      obtain ⟨hin, h⟩ := gd_some h
      exact tx_leafi h (W.zret hx hb hr (isB_nar hin) (fun t ht _ => qt_i h ht) (fun _ hq => nomatch hq) d_PM_passes_22)
    · rw [if_neg z_r2] at h
      exact tx_lpi h (cl_PM_132_x (rest := []) C hfl hTE (hml.trans hl.1.symm) hP g_r2 z_r2 ⟨Nat.le_of_ble_eq_true rfl, Nat.le_of_ble_eq_true rfl⟩ (Nat.le_of_ble_eq_true rfl) d_PM_passes_13 (covers_of_empty hne _) hlocks (cE_i h) (fun _ _ t9 => qt_xi h z_r2 t9))
  · rw [if_neg z_r1] at h
    exact tx_lpi h (cl_PM_88_x (rest := []) C hfl hTE (hml.trans hl.1.symm) hP g_r1 z_r1 ⟨Nat.le_of_ble_eq_true rfl, Nat.le_of_ble_eq_true rfl⟩ (Nat.le_of_ble_eq_true rfl) d_PM_passes_2 (covers_of_empty hne _) hlocks (cE_i h) (fun _ _ t9 => qt_xi h z_r1 t9))
abbrev wl_PM_way : List Cond := .code ⟨"PlaceMoves", "way", "(II)I"⟩ prog_1_method_15_code 4 (some FieldType.int) :: WG
set_option maxHeartbeats 4000000 in
set_option maxRecDepth 100000 in
theorem c_PM_way (l : Launch) (hfl : l.flags = pinnedFlags ++ [noTraceFlag]) (b0 : Nat) (G : va_G) (ad : Nat → Nat) (cI cZ : ClassId) (σ : Sg) (a1 : Int32) (a2 : Int32) (out : Nat × Int32) (h : f_PM_way σ a1 a2 = some out) : tx_Met l ⟨"PlaceMoves", "way", "(II)I"⟩ wl_PM_way (rmE 8 132 out.1) (PcT b0 G ad cI cZ σ [.ref (ad 0), .int a1, .int a2]) (QTi out) (cE out.1) (6 * cE out.1) (fun _ => False) := by
  refine tx_ofW (cc := prog_1_method_15_code) (maxL := 4) (ret := (some FieldType.int)) (by decide) rfl ?_
  intro p e s m args below meth c s₁ B hml hv
  obtain ⟨rfl, hP, hK, hTE⟩ := hv
  have hx := B.exec
  have hb := B.bytes
  have hr := B.returns
  have hts0 := atoms_spec (ws := wl_PM_way) B.pre
  have hts : ∀ w ∈ WG, w.before _ s = true := fun w hw => hts0 w (List.mem_cons_of_mem _ hw)
  have hne := B.noHandlers (hts0 _ List.mem_cons_self)
  have hown : s.vm.findClass "PlaceMoves" = some m.cls := findClass_of_methodNamed B.named
  have hlocks := B.notSynchronized
  have C : CX "PlaceMoves" prog_1_method_15_code p s m _ c G cI cZ := ⟨hx, hb, hown, hts, hK⟩
  have hl := lv_entry ([.ref (ad 0), .int a1, .int a2]) (n := 4) (Nat.le_of_ble_eq_true rfl)
  rw [lg_entry_eq]
  generalize (lg_sl ([.ref (ad 0), .int a1, .int a2]) ++ List.replicate (4 - (lg_sl ([.ref (ad 0), .int a1, .int a2])).length) Slot.unset).toArray = ls at hl ⊢
  have hl : lv_has ls 4 [(0, .ref (ad 0)), (1, .int a1), (2, .int a2)] := hl
  unfold f_PM_way at h
  refine lv_aload_n hx hb d_PM_way_0 rfl (lv_at hl 0 rfl) ?_
  refine lv_iload_n hx hb d_PM_way_1 rfl (lv_at hl 1 rfl) ?_
  obtain ⟨r1, g_r1, h⟩ := ob_some h
  by_cases z_r1 : r1 = 0
  · rw [if_pos z_r1] at h
    refine cl_PM_88 (rest := []) C hfl hTE (hml.trans hl.1.symm) hP g_r1 z_r1 ⟨Nat.le_of_ble_eq_true rfl, Nat.le_of_ble_eq_true rfl⟩ (Nat.le_of_ble_eq_true rfl) d_PM_way_2 ⟨Nat.zero_le _, Nat.zero_le _⟩ ?_
    refine lv_aload_n hx hb d_PM_way_5 rfl (lv_at hl 0 rfl) ?_
    refine lv_iload_n hx hb d_PM_way_6 rfl (lv_at hl 2 rfl) ?_
    obtain ⟨r2, g_r2, h⟩ := ob_some h
    by_cases z_r2 : r2 = 0
    · rw [if_pos z_r2] at h
      refine cl_PM_63 (rest := []) C hfl hTE (hml.trans hl.1.symm) hP g_r2 z_r2 ⟨Nat.le_of_ble_eq_true rfl, Nat.le_of_ble_eq_true rfl⟩ (Nat.le_of_ble_eq_true rfl) d_PM_way_7 ⟨Nat.zero_le _, Nat.zero_le _⟩ ?_
      refine lv_aload_n hx hb d_PM_way_10 rfl (lv_at hl 0 rfl) ?_
      refine lv_iload_n hx hb d_PM_way_11 rfl (lv_at hl 1 rfl) ?_
      refine lv_aload_n hx hb d_PM_way_12 rfl (lv_at hl 0 rfl) ?_
      refine gf_PM_59 C hP d_PM_way_13 ?_
      obtain ⟨r3, g_r3, h⟩ := ob_some h
      refine cl_PM_105 (rest := []) C (hml.trans hl.1.symm) hP g_r3 ⟨Nat.le_of_ble_eq_true rfl, Nat.le_of_ble_eq_true rfl⟩ (Nat.le_of_ble_eq_true rfl) d_PM_way_16 ⟨Nat.zero_le _, Nat.zero_le _⟩ ?_
      refine lv_istore_n (lv' := [(3, .int r3), (0, .ref (ad 0)), (1, .int a1), (2, .int a2)]) hx hb d_PM_way_19 rfl hl (by decide) rfl (fun ls hl => ?_)
      refine lv_iload_n hx hb d_PM_way_20 rfl (lv_at hl 0 rfl) ?_
      refine lv_iconst (v := (-1)) hx hb d_PM_way_21 (by decide) ?_
      refine lv_icmp_ne (tgt := 29) hx hb d_PM_way_22 (by decide) (fun c4 => ?_) (fun c4 => ?_)
      · rw [if_neg c4] at h
        refine lv_aload_n hx hb d_PM_way_29 rfl (lv_at hl 1 rfl) ?_
        refine lv_iload_n hx hb d_PM_way_30 rfl (lv_at hl 0 rfl) ?_
        refine lv_iload_n hx hb d_PM_way_31 rfl (lv_at hl 3 rfl) ?_
        refine lv_aload_n hx hb d_PM_way_32 rfl (lv_at hl 1 rfl) ?_
        refine lv_iload_n hx hb d_PM_way_33 rfl (lv_at hl 2 rfl) ?_
        obtain ⟨r5, g_r5, h⟩ := ob_some h
        refine cl_PM_156 (rest := [.int a2, .int r3, .ref (ad 0)]) C (hml.trans hl.1.symm) hP g_r5 ⟨Nat.le_of_ble_eq_true rfl, Nat.le_of_ble_eq_true rfl⟩ (Nat.le_of_ble_eq_true rfl) d_PM_way_34 ⟨Nat.zero_le _, Nat.zero_le _⟩ ?_
        obtain ⟨r6, g_r6, h⟩ := ob_some h
        refine cl_PM_160 (rest := []) C (hml.trans hl.1.symm) hP g_r6 ⟨Nat.le_of_ble_eq_true rfl, Nat.le_of_ble_eq_true rfl⟩ (Nat.le_of_ble_eq_true rfl) d_PM_way_37 ⟨Nat.zero_le _, Nat.zero_le _⟩ ?_
        exact tx_leafi h (W.iret hx hb hr (fun t ht _ => qt_i h ht) (fun _ hq => nomatch hq) d_PM_way_40)
      · rw [if_pos c4] at h
        refine lv_iconst (v := (-1)) hx hb d_PM_way_25 (by decide) ?_
        refine lv_goto (tgt := 40) hx hb d_PM_way_26 (by decide) ?_
        exact tx_leafi h (W.iret hx hb hr (fun t ht _ => qt_i h ht) (fun _ hq => nomatch hq) d_PM_way_40)
    · rw [if_neg z_r2] at h
      exact tx_lpi h (cl_PM_63_x (rest := []) C hfl hTE (hml.trans hl.1.symm) hP g_r2 z_r2 ⟨Nat.le_of_ble_eq_true rfl, Nat.le_of_ble_eq_true rfl⟩ (Nat.le_of_ble_eq_true rfl) d_PM_way_7 (covers_of_empty hne _) hlocks (cE_i h) (fun _ _ t9 => qt_xi h z_r2 t9))
  · rw [if_neg z_r1] at h
    exact tx_lpi h (cl_PM_88_x (rest := []) C hfl hTE (hml.trans hl.1.symm) hP g_r1 z_r1 ⟨Nat.le_of_ble_eq_true rfl, Nat.le_of_ble_eq_true rfl⟩ (Nat.le_of_ble_eq_true rfl) d_PM_way_2 (covers_of_empty hne _) hlocks (cE_i h) (fun _ _ t9 => qt_xi h z_r1 t9))
abbrev wl_PM_count : List Cond := .code ⟨"PlaceMoves", "count", "(I)I"⟩ prog_1_method_19_code 2 (some FieldType.int) :: WG
set_option maxHeartbeats 4000000 in
set_option maxRecDepth 100000 in
theorem c_PM_count (l : Launch) (hfl : l.flags = pinnedFlags ++ [noTraceFlag]) (b0 : Nat) (G : va_G) (ad : Nat → Nat) (cI cZ : ClassId) (σ : Sg) (a1 : Int32) (out : Nat × Int32) (h : f_PM_count σ a1 = some out) : tx_Met l ⟨"PlaceMoves", "count", "(I)I"⟩ wl_PM_count (rmE 6 90 out.1) (PcT b0 G ad cI cZ σ [.ref (ad 0), .int a1]) (QTi out) (cE out.1) (6 * cE out.1) (fun _ => False) := by
  refine tx_ofW (cc := prog_1_method_19_code) (maxL := 2) (ret := (some FieldType.int)) (by decide) rfl ?_
  intro p e s m args below meth c s₁ B hml hv
  obtain ⟨rfl, hP, hK, hTE⟩ := hv
  have hx := B.exec
  have hb := B.bytes
  have hr := B.returns
  have hts0 := atoms_spec (ws := wl_PM_count) B.pre
  have hts : ∀ w ∈ WG, w.before _ s = true := fun w hw => hts0 w (List.mem_cons_of_mem _ hw)
  have hne := B.noHandlers (hts0 _ List.mem_cons_self)
  have hown : s.vm.findClass "PlaceMoves" = some m.cls := findClass_of_methodNamed B.named
  have hlocks := B.notSynchronized
  have C : CX "PlaceMoves" prog_1_method_19_code p s m _ c G cI cZ := ⟨hx, hb, hown, hts, hK⟩
  have hl := lv_entry ([.ref (ad 0), .int a1]) (n := 2) (Nat.le_of_ble_eq_true rfl)
  rw [lg_entry_eq]
  generalize (lg_sl ([.ref (ad 0), .int a1]) ++ List.replicate (2 - (lg_sl ([.ref (ad 0), .int a1])).length) Slot.unset).toArray = ls at hl ⊢
  have hl : lv_has ls 2 [(0, .ref (ad 0)), (1, .int a1)] := hl
  unfold f_PM_count at h
  refine lv_iload_n hx hb d_PM_count_0 rfl (lv_at hl 1 rfl) ?_
  by_cases e1 : a1 = 0
  · rw [if_pos e1] at h
    refine lv_tableIn (off := 39) (tgt := 40) hx hb d_PM_count_1 (by rw [e1]; decide) (by rw [e1]; decide) (by rw [e1]; decide) (by decide) ?_
    refine lv_aload_n hx hb d_PM_count_40 rfl (lv_at hl 0 rfl) ?_
    refine gf_PM_10 C hP d_PM_count_41 ?_
    refine gf_PM_72 C hP d_PM_count_44 ?_
    exact tx_leafi h (W.iret hx hb hr (fun t ht _ => qt_i h ht) (fun _ hq => nomatch hq) d_PM_count_47)
  · rw [if_neg e1] at h
    by_cases e2 : a1 = 1
    · rw [if_pos e2] at h
      refine lv_tableIn (off := 47) (tgt := 48) hx hb d_PM_count_1 (by rw [e2]; decide) (by rw [e2]; decide) (by rw [e2]; decide) (by decide) ?_
      refine lv_aload_n hx hb d_PM_count_48 rfl (lv_at hl 0 rfl) ?_
      refine gf_PM_19 C hP d_PM_count_49 ?_
      refine gf_PM_84 C hP d_PM_count_52 ?_
      exact tx_leafi h (W.iret hx hb hr (fun t ht _ => qt_i h ht) (fun _ hq => nomatch hq) d_PM_count_55)
    · rw [if_neg e2] at h
      by_cases e3 : a1 = 2
      · rw [if_pos e3] at h
        refine lv_tableIn (off := 55) (tgt := 56) hx hb d_PM_count_1 (by rw [e3]; decide) (by rw [e3]; decide) (by rw [e3]; decide) (by decide) ?_
        refine lv_aload_n hx hb d_PM_count_56 rfl (lv_at hl 0 rfl) ?_
        refine gf_PM_33 C hP d_PM_count_57 ?_
        refine gf_PM_151 C hP d_PM_count_60 ?_
        exact tx_leafi h (W.iret hx hb hr (fun t ht _ => qt_i h ht) (fun _ hq => nomatch hq) d_PM_count_63)
      · rw [if_neg e3] at h
        by_cases e4 : a1 = 3
        · rw [if_pos e4] at h
          refine lv_tableIn (off := 63) (tgt := 64) hx hb d_PM_count_1 (by rw [e4]; decide) (by rw [e4]; decide) (by rw [e4]; decide) (by decide) ?_
          refine lv_aload_n hx hb d_PM_count_64 rfl (lv_at hl 0 rfl) ?_
          refine gf_PM_40 C hP d_PM_count_65 ?_
          refine gf_PM_164 C hP d_PM_count_68 ?_
          exact tx_leafi h (W.iret hx hb hr (fun t ht _ => qt_i h ht) (fun _ hq => nomatch hq) d_PM_count_71)
        · rw [if_neg e4] at h
          by_cases e5 : a1 = 4
          · rw [if_pos e5] at h
            refine lv_tableIn (off := 71) (tgt := 72) hx hb d_PM_count_1 (by rw [e5]; decide) (by rw [e5]; decide) (by rw [e5]; decide) (by decide) ?_
            refine lv_aload_n hx hb d_PM_count_72 rfl (lv_at hl 0 rfl) ?_
            refine gf_PM_59 C hP d_PM_count_73 ?_
            exact tx_leafi h (W.iret hx hb hr (fun t ht _ => qt_i h ht) (fun _ hq => nomatch hq) d_PM_count_76)
          · rw [if_neg e5] at h
            by_cases e6 : a1 = 5
            · rw [if_pos e6] at h
              refine lv_tableIn (off := 76) (tgt := 77) hx hb d_PM_count_1 (by rw [e6]; decide) (by rw [e6]; decide) (by rw [e6]; decide) (by decide) ?_
              refine lv_aload_n hx hb d_PM_count_77 rfl (lv_at hl 0 rfl) ?_
              refine gf_PM_26 C hP d_PM_count_78 ?_
              refine gf_PM_186 C hP d_PM_count_81 ?_
              exact tx_leafi h (W.iret hx hb hr (fun t ht _ => qt_i h ht) (fun _ hq => nomatch hq) d_PM_count_84)
            · rw [if_neg e6] at h
              have o_e1 : (a1).toInt ≠ 0 := fun q9 => e1 (Int32.toInt_inj.mp (q9.trans (by decide)))
              have o_e2 : (a1).toInt ≠ 1 := fun q9 => e2 (Int32.toInt_inj.mp (q9.trans (by decide)))
              have o_e3 : (a1).toInt ≠ 2 := fun q9 => e3 (Int32.toInt_inj.mp (q9.trans (by decide)))
              have o_e4 : (a1).toInt ≠ 3 := fun q9 => e4 (Int32.toInt_inj.mp (q9.trans (by decide)))
              have o_e5 : (a1).toInt ≠ 4 := fun q9 => e5 (Int32.toInt_inj.mp (q9.trans (by decide)))
              have o_e6 : (a1).toInt ≠ 5 := fun q9 => e6 (Int32.toInt_inj.mp (q9.trans (by decide)))
              refine lv_tableOut (tgt := 85) hx hb d_PM_count_1 (by omega) (by decide) ?_
              exact tx_lni h (by decide) (nw_PM_144_189 C hfl hTE (hml.trans hl.1.symm) d_PM_count_85 d_PM_count_88 d_PM_count_89 d_PM_count_91 d_PM_count_94 (covers_of_empty hne _) hlocks (cE_i1 h (by decide)) ⟨Nat.le_of_ble_eq_true rfl, Nat.le_of_ble_eq_true rfl⟩ (Nat.le_of_ble_eq_true rfl) (fun t t9 => qt_xi h (by decide) t9))
end
section
/-! contracts of methods that write and throw -/
def ThrX (k n : Nat) (o : Outcome) (t : State) : Prop := ∃ (q : Addr) (ce : Cell), o = .threw q ∧ t.heap[q]? = some ce ∧ ce.vm = .none ∧ t.vm.findClass (exN k) = some ce.cls ∧ n ≤ q
def QXi (G : va_G) (ad : Nat → Nat) (cI cZ : ClassId) (out : Nat × Int32 × Sg) : Array Value → State → Outcome → State → Prop := fun _ st o t =>
  va_P G clX (wX ad cI cZ out.2.2) t.heap ∧ va_F (AX ad) st t ∧ (out.1 = 0 → o = .returned (some (.int out.2.1))) ∧ (out.1 ≠ 0 → ThrX out.1 st.heap.size o t)
def QXv (G : va_G) (ad : Nat → Nat) (cI cZ : ClassId) (out : Nat × Sg) : Array Value → State → Outcome → State → Prop := fun _ st o t =>
  va_P G clX (wX ad cI cZ out.2) t.heap ∧ va_F (AX ad) st t ∧ (out.1 = 0 → o = .returned none) ∧ (out.1 ≠ 0 → ThrX out.1 st.heap.size o t)
section QXS
variable {G : va_G} {ad : Nat → Nat} {cI cZ : ClassId} {b0 : Nat} {σ : Sg} {s t : State} {H : Heap} {locs : List Loc} {a : Array Value} {k : Nat} {o : Outcome}
theorem TE.ofS (h : TE b0 s s.heap) (hb0 : ∀ k, k < 32 → b0 ≤ ad k) (hW : WS G ad cI cZ s σ H locs) : TE b0 s H :=
  h.kept fun a ha hl => hW.2.2.1 a hl (fun ⟨k, hk, e⟩ => by have := hb0 k hk; omega)
theorem qx_w (hW : WS G ad cI cZ s σ H locs) (h : Thr k H o t) : va_P G clX (wX ad cI cZ σ) t.heap ∧ va_F (AX ad) s t ∧ ThrX k s.heap.size o t := by
  obtain ⟨q, ce, h1, h2, h3, h4, h5, h6, h7⟩ := h
  refine ⟨hW.1.kept (fun j z hz => h7 _ (hW.1 j z hz).lt), ⟨Nat.le_trans hW.2.1 h6, fun z hz hn => ?_⟩, q, ce, h1, h2, h3, h4, Nat.le_trans hW.2.1 h5⟩
  rw [h7 z (Nat.lt_of_lt_of_le hz hW.2.1)]
  exact hW.2.2.1 z hz hn
theorem qx_i {out : Nat × Int32 × Sg} {v : Int32} (h : some ((0 : Nat), v, σ) = some out) (ht : t.heap = H) (hW : WS G ad cI cZ s σ H locs) : QXi G ad cI cZ out a s (.returned (some (.int v))) t := by
  cases h
  exact ⟨by show va_P _ _ _ t.heap; rw [ht]; exact hW.1, hW.2.F ht, fun _ => rfl, fun z => absurd rfl z⟩
theorem qx_v {out : Nat × Sg} (h : some ((0 : Nat), σ) = some out) (ht : t.heap = H) (hW : WS G ad cI cZ s σ H locs) : QXv G ad cI cZ out a s (.returned none) t := by
  cases h
  exact ⟨by show va_P _ _ _ t.heap; rw [ht]; exact hW.1, hW.2.F ht, fun _ => rfl, fun z => absurd rfl z⟩
theorem qx_xi {out : Nat × Int32 × Sg} {v : Int32} (h : some (k, v, σ) = some out) (hk : k ≠ 0) (hW : WS G ad cI cZ s σ H locs) (ht : Thr k H o t) : QXi G ad cI cZ out a s o t := by
  cases h
  obtain ⟨h1, h2, h3⟩ := qx_w hW ht
  exact ⟨h1, h2, fun z => absurd z hk, fun _ => h3⟩
theorem qx_xv {out : Nat × Sg} (h : some (k, σ) = some out) (hk : k ≠ 0) (hW : WS G ad cI cZ s σ H locs) (ht : Thr k H o t) : QXv G ad cI cZ out a s o t := by
  cases h
  obtain ⟨h1, h2, h3⟩ := qx_w hW ht
  exact ⟨h1, h2, fun z => absurd z hk, fun _ => h3⟩
end QXS
theorem some_fst {α : Type} {k : Nat} {x : α} {out : Nat × α} (h : some (k, x) = some out) : k = out.1 := by
  cases h
  rfl
theorem cE_x {k j : Nat} (h : k = j) : 0 + cE k ≤ cE j ∧ 0 + 6 * cE k ≤ 6 * cE j := by
  subst h
  exact ⟨by omega, by omega⟩
theorem cE_x1 {k j : Nat} (h : k = j) (hk : k ≠ 0) : 0 + 1 ≤ cE j ∧ 0 + 6 ≤ 6 * cE j := by
  subst h
  rw [cE_one hk]
  exact ⟨by omega, by omega⟩
section TXE
variable {p : Program} {l : Launch} {e : Env} {R : Room} {s : State} {m : MethodId} {args : Array Value} {below : List Frame} {meth : Method} {c : Code} {H : Heap} {locs : List Loc} {cells slots : Nat} {Q : State → Prop}
variable {Qc : Array Value → State → Outcome → State → Prop} {free : Addr → Prop} {g : JFrame}
theorem tx_leafx {j : Nat} (h : 0 = j) (k : W p l e R s m args below meth c H locs 0 0 (MQ below Qc args s 0 0 free) g) : W p l e R s m args below meth c H locs 0 0 (tx_MQ below Qc args s (cE j) (6 * cE j) free) g := by
  subst h
  exact tx_ret k
theorem tx_lnx {j k : Nat} (h : k = j) (hk : k ≠ 0) (kk : W p l e R s m args below meth c H locs 0 0 (tx_MQ below Qc args s (0 + 1) (0 + 6) free) g) : W p l e R s m args below meth c H locs 0 0 (tx_MQ below Qc args s (cE j) (6 * cE j) free) g := by
  subst h
  rw [cE_one hk]
  exact kk
theorem tx_lpx {j k : Nat} (h : k = j) (kk : W p l e R s m args below meth c H locs 0 0 (tx_MQ below Qc args s (0 + cE k) (0 + 6 * cE k) free) g) : W p l e R s m args below meth c H locs 0 0 (tx_MQ below Qc args s (cE j) (6 * cE j) free) g := by
  subst h
  rw [Nat.zero_add, Nat.zero_add] at kk
  exact kk
end TXE
end
section
def C_PM_place_10  (x1 : Int32) (x2 : Int32) (σ : Sg) : Option (Nat × Int32 × Sg) :=
  (f_PM_needRange σ x2 1 1000000000).bind fun r2 => if r2 = 0 then ((f_PM_needRoom σ (σ 1 0) 24).bind fun r3 => if r3 = 0 then ((f_Places_add σ x1 x2).bind fun r4 => some (0, r4.1, r4.2)) else some (r3, 0, σ)) else some (r2, 0, σ)
def f_PM_place (σ : Sg) (x1 : Int32) (x2 : Int32) : Option (Nat × Int32 × Sg) :=
  if x1 = ((-1)) then (C_PM_place_10 x1 x2 σ) else ((f_PM_needPlace σ x1).bind fun r1 => if r1 = 0 then (C_PM_place_10 x1 x2 σ) else some (r1, 0, σ))
def f_PM_object (σ : Sg) (x1 : Int32) (x2 : Int32) (x3 : Int32) (x4 : Int32) : Option (Nat × Int32 × Sg) :=
  (f_PM_needRange σ x1 1 10000).bind fun r1 => if r1 = 0 then ((f_PM_needRange σ x2 1 10000).bind fun r2 => if r2 = 0 then ((f_PM_needRange σ x3 1 10000).bind fun r3 => if r3 = 0 then ((f_PM_needRange σ x4 1 1000000).bind fun r4 => if r4 = 0 then ((f_PM_needRoom σ (σ 2 0) 20).bind fun r5 => if r5 = 0 then ((f_Things_add σ x1 x2 x3 x4).bind fun r6 => some (0, r6.1, r6.2)) else some (r5, 0, σ)) else some (r4, 0, σ)) else some (r3, 0, σ)) else some (r2, 0, σ)) else some (r1, 0, σ)
def f_PM_keys (σ : Sg) (x1 : Int32) (x2 : Int32) : Option (Nat × Int32 × Sg) :=
  (f_PM_needObject σ x1).bind fun r1 => if r1 = 0 then ((f_PM_needRange σ x2 0 2).bind fun r2 => if r2 = 0 then (gd (inB x1 20) <| lt1 (σ 15 (Int32.toNatClampNeg x1)) fun y3 => gd (inB x1 20) <| lt1 (st σ 15 (Int32.toNatClampNeg x1) x2) fun σ4 => some (0, y3, σ4)) else some (r2, 0, σ)) else some (r1, 0, σ)
def f_PM_key (σ : Sg) (x1 : Int32) (x2 : Int32) : Option (Nat × Int32 × Sg) :=
  (f_PM_needPerson σ x1).bind fun r1 => if r1 = 0 then (gd (inB x1 10) <| if (σ 7 (Int32.toNatClampNeg x1)) = x2 then (gd (inB x1 10) <| lt1 (st σ 7 (Int32.toNatClampNeg x1) (vp_nar .boolean x2)) fun σ3 => some (0, 0, σ3)) else (gd (inB x1 10) <| lt1 (st σ 7 (Int32.toNatClampNeg x1) (vp_nar .boolean x2)) fun σ2 => some (0, 1, σ2))) else some (r1, 0, σ)
def f_PM_box (σ : Sg) (x1 : Int32) : Option (Nat × Int32 × Sg) :=
  (f_PM_needObject σ x1).bind fun r1 => if r1 = 0 then (gd (inB x1 20) <| if (σ 16 (Int32.toNatClampNeg x1)) = 0 then (gd (inB x1 20) <| lt1 (st σ 16 (Int32.toNatClampNeg x1) (vp_nar .boolean 1)) fun σ2 => some (0, 1, σ2)) else (gd (inB x1 20) <| lt1 (st σ 16 (Int32.toNatClampNeg x1) (vp_nar .boolean 1)) fun σ3 => some (0, 0, σ3))) else some (r1, 0, σ)
def f_PM_move (σ : Sg) (x1 : Int32) (x2 : Int32) (x3 : Int32) (x4 : Int32) (x5 : Int32) : Option (Nat × Int32 × Sg) :=
  (f_PM_needObject σ x1).bind fun r1 => if r1 = 0 then ((f_PM_needPlace σ x2).bind fun r2 => if r2 = 0 then ((f_PM_needPerson σ x4).bind fun r3 => if r3 = 0 then ((f_PM_needPerson σ x5).bind fun r4 => if r4 = 0 then ((f_PM_needRange σ x3 (σ 0 0) 1000000).bind fun r5 => if r5 = 0 then (gd (inB x1 20) <| (f_PM_needRoom σ (σ 17 (Int32.toNatClampNeg x1)) 40).bind fun r6 => if r6 = 0 then ((f_PM_needKeysOf σ x1 x4 x5).bind fun r7 => if r7 = 0 then ((f_PM_placeAt σ x1 x3).bind fun r8 => (f_PM_isBarred σ r8 x2 x3).bind fun r9 => if r9 = 0 then ((f_PM_comesByRow σ x1 x3 0 x2).bind fun r10 => if r10.1 = 0 then (some (0, 2, r10.2)) else (some (0, 0, r10.2))) else (some (0, 1, σ))) else some (r7, 0, σ)) else some (r6, 0, σ)) else some (r5, 0, σ)) else some (r4, 0, σ)) else some (r3, 0, σ)) else some (r2, 0, σ)) else some (r1, 0, σ)
def f_PM_into (σ : Sg) (x1 : Int32) (x2 : Int32) (x3 : Int32) : Option (Nat × Int32 × Sg) :=
  (f_PM_needObject σ x1).bind fun r1 => if r1 = 0 then ((f_PM_needObject σ x2).bind fun r2 => if r2 = 0 then ((f_PM_needRange σ x3 (σ 0 0) 1000000).bind fun r3 => if r3 = 0 then (gd (inB x1 20) <| (f_PM_needRoom σ (σ 17 (Int32.toNatClampNeg x1)) 40).bind fun r4 => if r4 = 0 then (gd (inB x2 20) <| if (σ 16 (Int32.toNatClampNeg x2)) = 0 then (some (0, 1, σ)) else (if x2 = x1 then (some (0, 1, σ)) else ((f_PM_isWithin σ x2 x1 x3).bind fun r5 => if r5 = 0 then ((f_Things_isSmaller σ x1 x2).bind fun r6 => if r6 = 0 then (some (0, 2, σ)) else (gd (inB x1 20) <| if (σ 15 (Int32.toNatClampNeg x1)) ≤ 0 then ((f_PM_placeAt σ x1 x3).bind fun r7 => (f_PM_placeAt σ x2 x3).bind fun r8 => (f_PM_isBarred σ r7 r8 x3).bind fun r9 => if r9 = 0 then ((f_PM_comesByRow σ x1 x3 1 x2).bind fun r10 => if r10.1 = 0 then (some (0, 5, r10.2)) else (some (0, 0, r10.2))) else (some (0, 4, σ))) else (some (0, 3, σ)))) else (some (0, 1, σ))))) else some (r4, 0, σ)) else some (r3, 0, σ)) else some (r2, 0, σ)) else some (r1, 0, σ)
def f_PM_lost (σ : Sg) (x1 : Int32) (x2 : Int32) : Option (Nat × Int32 × Sg) :=
  (f_PM_needObject σ x1).bind fun r1 => if r1 = 0 then ((f_PM_needRange σ x2 (σ 0 0) 1000000).bind fun r2 => if r2 = 0 then (gd (inB x1 20) <| (f_PM_needRoom σ (σ 17 (Int32.toNatClampNeg x1)) 40).bind fun r3 => if r3 = 0 then ((f_Rows_held σ x1 (σ 0 0)).bind fun r4 => if r4 = ((-1)) then (some (0, 0, σ)) else (gd (inB r4 800) <| if (σ 19 (Int32.toNatClampNeg r4)) = 0 then ((f_PM_comesByRow σ x1 x2 2 ((-1))).bind fun r5 => gd (isB r5.1) <| some (0, r5.1, r5.2)) else (some (0, 0, σ)))) else some (r3, 0, σ)) else some (r2, 0, σ)) else some (r1, 0, σ)
def f_PM_door (σ : Sg) (x1 : Int32) (x2 : Int32) (x3 : Int32) (x4 : Int32) : Option (Nat × Int32 × Sg) :=
  (f_PM_needPlace σ x1).bind fun r1 => if r1 = 0 then ((f_PM_needPlace σ x2).bind fun r2 => if r2 = 0 then (if x1 = x2 then (some (2, 0, σ)) else ((f_PM_needRange σ x3 1 10000).bind fun r3 => if r3 = 0 then ((f_PM_needRange σ x4 1 10000).bind fun r4 => if r4 = 0 then ((f_PM_needRoom σ (σ 4 0) 40).bind fun r5 => if r5 = 0 then ((f_Doors_add σ x1 x2 x3 x4).bind fun r6 => some (0, r6.1, r6.2)) else some (r5, 0, σ)) else some (r4, 0, σ)) else some (r3, 0, σ))) else some (r2, 0, σ)) else some (r1, 0, σ)
def f_PM_planned (σ : Sg) (x1 : Int32) (x2 : Int32) (x3 : Int32) (x4 : Int32) : Option (Nat × Int32 × Sg) :=
  (f_PM_needObject σ x1).bind fun r1 => if r1 = 0 then ((f_PM_needPlace σ x2).bind fun r2 => if r2 = 0 then ((f_PM_needRange σ x3 (σ 0 0) 1000000).bind fun r3 => if r3 = 0 then ((f_PM_needRange σ x4 x3 1000000).bind fun r4 => if r4 = 0 then ((f_PM_needRoom σ (σ 5 0) 30).bind fun r5 => if r5 = 0 then ((f_Plans_add σ x1 x2 x3 x4).bind fun r6 => (f_PM_loadsHold r6 x2 x3 x4).bind fun r7 => if r7.1 = 0 then ((f_Plans_dropNewest r7.2).bind fun r8 => some (0, 1, r8)) else (some (0, 0, r7.2))) else some (r5, 0, σ)) else some (r4, 0, σ)) else some (r3, 0, σ)) else some (r2, 0, σ)) else some (r1, 0, σ)
def f_PM_used (σ : Sg) (x1 : Int32) (x2 : Int32) : Option (Nat × Int32 × Sg) :=
  (f_PM_needPlace σ x1).bind fun r1 => if r1 = 0 then ((f_PM_weighAt σ x2).bind fun r2 => (f_PM_weightOf r2 x1).bind fun r3 => some (0, r3, r2)) else some (r1, 0, σ)
def f_PM_quiet (σ : Sg) (x1 : Int32) (x2 : Int32) (x3 : Int32) : Option (Nat × Sg) :=
  (f_PM_needPlace σ x1).bind fun r1 => if r1 = 0 then (if x2 < 0 then (some (2, σ)) else (if x2 ≤ x3 then ((f_PM_needRoom σ (σ 6 0) 20).bind fun r2 => if r2 = 0 then ((f_QuietTimes_add σ x1 x2 x3).bind fun r3 => some (0, r3)) else some (r2, σ)) else (some (2, σ)))) else some (r1, σ)
end
section
abbrev wl_PM_place : List Cond := .code ⟨"PlaceMoves", "place", "(II)I"⟩ prog_1_method_2_code 3 (some FieldType.int) :: WG
set_option maxHeartbeats 4000000 in
set_option maxRecDepth 100000 in
theorem c_PM_place (l : Launch) (hfl : l.flags = pinnedFlags ++ [noTraceFlag]) (b0 : Nat) (G : va_G) (ad : Nat → Nat) (cI cZ : ClassId) (hD : DX ad) (hb0 : ∀ k, k < 32 → b0 ≤ ad k) (σ : Sg) (a1 : Int32) (a2 : Int32) (out : Nat × Int32 × Sg) (h : f_PM_place σ a1 a2 = some out) : tx_Met l ⟨"PlaceMoves", "place", "(II)I"⟩ wl_PM_place (rmE 8 132 out.1) (PcT b0 G ad cI cZ σ [.ref (ad 0), .int a1, .int a2]) (QXi G ad cI cZ out) (cE out.1) (6 * cE out.1) (AX ad) := by
  refine tx_ofW (cc := prog_1_method_2_code) (maxL := 3) (ret := (some FieldType.int)) (by decide) rfl ?_
  intro p e s m args below meth c s₁ B hml hv
  obtain ⟨rfl, hP, hK, hTE⟩ := hv
  have hx := B.exec
  have hb := B.bytes
  have hr := B.returns
  have hts0 := atoms_spec (ws := wl_PM_place) B.pre
  have hts : ∀ w ∈ WG, w.before _ s = true := fun w hw => hts0 w (List.mem_cons_of_mem _ hw)
  have hne := B.noHandlers (hts0 _ List.mem_cons_self)
  have hown : s.vm.findClass "PlaceMoves" = some m.cls := findClass_of_methodNamed B.named
  have hlocks := B.notSynchronized
  have C : CX "PlaceMoves" prog_1_method_2_code p s m _ c G cI cZ := ⟨hx, hb, hown, hts, hK⟩
  have hl := lv_entry ([.ref (ad 0), .int a1, .int a2]) (n := 3) (Nat.le_of_ble_eq_true rfl)
  rw [lg_entry_eq]
  generalize (lg_sl ([.ref (ad 0), .int a1, .int a2]) ++ List.replicate (3 - (lg_sl ([.ref (ad 0), .int a1, .int a2])).length) Slot.unset).toArray = ls at hl ⊢
  have hl : lv_has ls 3 [(0, .ref (ad 0)), (1, .int a1), (2, .int a2)] := hl
  unfold f_PM_place at h
  have hW : WS G ad cI cZ s σ s.heap [] := ⟨hP, va_S.rf⟩
  refine lv_iload_n hx hb d_PM_place_0 rfl (lv_at hl 1 rfl) ?_
  refine lv_iconst (v := (-1)) hx hb d_PM_place_1 (by decide) ?_
  refine lv_icmp_eq (tgt := 10) hx hb d_PM_place_2 (by decide) (fun c1 => ?_) (fun c1 => ?_)
  · rw [if_pos c1] at h
    have k10 : ∀ (x1 : Int32) (x2 : Int32) (σ : Sg) (h : C_PM_place_10 x1 x2 σ = some out) (H : Heap) (locs : List Loc) (hW : WS G ad cI cZ s σ H locs) (ls : Array Slot) (hl : lv_has ls 3 [(0, .ref (ad 0)), (1, .int x1), (2, .int x2)]), W p l e (headSpec wl_PM_place (rmE 8 132 out.1)).room s m (([.ref (ad 0), .int a1, .int a2] : List Value).toArray) below meth c H locs 0 0 (tx_MQ below (QXi G ad cI cZ out) (([.ref (ad 0), .int a1, .int a2] : List Value).toArray) s (cE out.1) (6 * cE out.1) (AX ad)) (F0 m 10 ls []) := by
      intro x1 x2 σ h H locs hW ls hl
      unfold C_PM_place_10 at h
      refine lv_iload_n hx hb d_PM_place_10 rfl (lv_at hl 2 rfl) ?_
      refine lv_iconst (v := 1) hx hb d_PM_place_11 (by decide) ?_
      refine lv_ldc (v := 1000000000) hx hb hown (hts _ w_289) d_PM_place_12 ?_
      obtain ⟨r6, g_r6, h⟩ := ob_some h
      by_cases z_r6 : r6 = 0
      · rw [if_pos z_r6] at h
        refine cl_PM_68 (rest := []) C hfl (TE.ofS hTE hb0 hW) (hml.trans hl.1.symm) hW.1 g_r6 z_r6 ⟨Nat.le_of_ble_eq_true rfl, Nat.le_of_ble_eq_true rfl⟩ (Nat.le_of_ble_eq_true rfl) d_PM_place_14 ⟨Nat.zero_le _, Nat.zero_le _⟩ ?_
        refine lv_aload_n hx hb d_PM_place_17 rfl (lv_at hl 0 rfl) ?_
        refine gf_PM_10 C hW.1 d_PM_place_18 ?_
        refine gf_PM_72 C hW.1 d_PM_place_21 ?_
        refine lv_bipush (v := 24) hx hb d_PM_place_24 (by decide) ?_
        obtain ⟨r7, g_r7, h⟩ := ob_some h
        by_cases z_r7 : r7 = 0
        · rw [if_pos z_r7] at h
          refine cl_PM_75 (rest := []) C hfl (TE.ofS hTE hb0 hW) (hml.trans hl.1.symm) hW.1 g_r7 z_r7 ⟨Nat.le_of_ble_eq_true rfl, Nat.le_of_ble_eq_true rfl⟩ (Nat.le_of_ble_eq_true rfl) d_PM_place_26 ⟨Nat.zero_le _, Nat.zero_le _⟩ ?_
          refine lv_aload_n hx hb d_PM_place_29 rfl (lv_at hl 0 rfl) ?_
          refine gf_PM_10 C hW.1 d_PM_place_30 ?_
          refine lv_iload_n hx hb d_PM_place_33 rfl (lv_at hl 1 rfl) ?_
          refine lv_iload_n hx hb d_PM_place_34 rfl (lv_at hl 2 rfl) ?_
          obtain ⟨r8, g_r8, h⟩ := ob_some h
          refine cl_PM_79 (rest := []) C hD (hml.trans hl.1.symm) hW g_r8 ⟨Nat.le_of_ble_eq_true rfl, Nat.le_of_ble_eq_true rfl⟩ (Nat.le_of_ble_eq_true rfl) d_PM_place_35 ⟨Nat.zero_le _, Nat.zero_le _⟩ (fun H locs hW => ?_)
          exact tx_leafx (some_fst h) (W.iret hx hb hr (fun t ht _ => qx_i h ht hW) hW.2.2.2 d_PM_place_38)
        · rw [if_neg z_r7] at h
          exact tx_lpx (some_fst h) (cl_PM_75_x (rest := []) C hfl (TE.ofS hTE hb0 hW) (hml.trans hl.1.symm) hW.1 g_r7 z_r7 ⟨Nat.le_of_ble_eq_true rfl, Nat.le_of_ble_eq_true rfl⟩ (Nat.le_of_ble_eq_true rfl) d_PM_place_26 (covers_of_empty hne _) hlocks (cE_x (some_fst h)) (fun _ _ t9 => qx_xi h z_r7 hW t9) hW.2.2.2)
      · rw [if_neg z_r6] at h
        exact tx_lpx (some_fst h) (cl_PM_68_x (rest := []) C hfl (TE.ofS hTE hb0 hW) (hml.trans hl.1.symm) hW.1 g_r6 z_r6 ⟨Nat.le_of_ble_eq_true rfl, Nat.le_of_ble_eq_true rfl⟩ (Nat.le_of_ble_eq_true rfl) d_PM_place_14 (covers_of_empty hne _) hlocks (cE_x (some_fst h)) (fun _ _ t9 => qx_xi h z_r6 hW t9) hW.2.2.2)
    exact k10 a1 a2 σ h _ _ hW _ (lv_sub hl [0, 1, 2] rfl)
  · rw [if_neg c1] at h
    refine lv_aload_n hx hb d_PM_place_5 rfl (lv_at hl 0 rfl) ?_
    refine lv_iload_n hx hb d_PM_place_6 rfl (lv_at hl 1 rfl) ?_
    obtain ⟨r2, g_r2, h⟩ := ob_some h
    by_cases z_r2 : r2 = 0
    · rw [if_pos z_r2] at h
      refine cl_PM_63 (rest := []) C hfl (TE.ofS hTE hb0 hW) (hml.trans hl.1.symm) hW.1 g_r2 z_r2 ⟨Nat.le_of_ble_eq_true rfl, Nat.le_of_ble_eq_true rfl⟩ (Nat.le_of_ble_eq_true rfl) d_PM_place_7 ⟨Nat.zero_le _, Nat.zero_le _⟩ ?_
      have k10 : ∀ (x1 : Int32) (x2 : Int32) (σ : Sg) (h : C_PM_place_10 x1 x2 σ = some out) (H : Heap) (locs : List Loc) (hW : WS G ad cI cZ s σ H locs) (ls : Array Slot) (hl : lv_has ls 3 [(0, .ref (ad 0)), (1, .int x1), (2, .int x2)]), W p l e (headSpec wl_PM_place (rmE 8 132 out.1)).room s m (([.ref (ad 0), .int a1, .int a2] : List Value).toArray) below meth c H locs 0 0 (tx_MQ below (QXi G ad cI cZ out) (([.ref (ad 0), .int a1, .int a2] : List Value).toArray) s (cE out.1) (6 * cE out.1) (AX ad)) (F0 m 10 ls []) := by
        intro x1 x2 σ h H locs hW ls hl
        unfold C_PM_place_10 at h
        refine lv_iload_n hx hb d_PM_place_10 rfl (lv_at hl 2 rfl) ?_
        refine lv_iconst (v := 1) hx hb d_PM_place_11 (by decide) ?_
        refine lv_ldc (v := 1000000000) hx hb hown (hts _ w_289) d_PM_place_12 ?_
        obtain ⟨r3, g_r3, h⟩ := ob_some h
        by_cases z_r3 : r3 = 0
        · rw [if_pos z_r3] at h
          refine cl_PM_68 (rest := []) C hfl (TE.ofS hTE hb0 hW) (hml.trans hl.1.symm) hW.1 g_r3 z_r3 ⟨Nat.le_of_ble_eq_true rfl, Nat.le_of_ble_eq_true rfl⟩ (Nat.le_of_ble_eq_true rfl) d_PM_place_14 ⟨Nat.zero_le _, Nat.zero_le _⟩ ?_
          refine lv_aload_n hx hb d_PM_place_17 rfl (lv_at hl 0 rfl) ?_
          refine gf_PM_10 C hW.1 d_PM_place_18 ?_
          refine gf_PM_72 C hW.1 d_PM_place_21 ?_
          refine lv_bipush (v := 24) hx hb d_PM_place_24 (by decide) ?_
          obtain ⟨r4, g_r4, h⟩ := ob_some h
          by_cases z_r4 : r4 = 0
          · rw [if_pos z_r4] at h
            refine cl_PM_75 (rest := []) C hfl (TE.ofS hTE hb0 hW) (hml.trans hl.1.symm) hW.1 g_r4 z_r4 ⟨Nat.le_of_ble_eq_true rfl, Nat.le_of_ble_eq_true rfl⟩ (Nat.le_of_ble_eq_true rfl) d_PM_place_26 ⟨Nat.zero_le _, Nat.zero_le _⟩ ?_
            refine lv_aload_n hx hb d_PM_place_29 rfl (lv_at hl 0 rfl) ?_
            refine gf_PM_10 C hW.1 d_PM_place_30 ?_
            refine lv_iload_n hx hb d_PM_place_33 rfl (lv_at hl 1 rfl) ?_
            refine lv_iload_n hx hb d_PM_place_34 rfl (lv_at hl 2 rfl) ?_
            obtain ⟨r5, g_r5, h⟩ := ob_some h
            refine cl_PM_79 (rest := []) C hD (hml.trans hl.1.symm) hW g_r5 ⟨Nat.le_of_ble_eq_true rfl, Nat.le_of_ble_eq_true rfl⟩ (Nat.le_of_ble_eq_true rfl) d_PM_place_35 ⟨Nat.zero_le _, Nat.zero_le _⟩ (fun H locs hW => ?_)
            exact tx_leafx (some_fst h) (W.iret hx hb hr (fun t ht _ => qx_i h ht hW) hW.2.2.2 d_PM_place_38)
          · rw [if_neg z_r4] at h
            exact tx_lpx (some_fst h) (cl_PM_75_x (rest := []) C hfl (TE.ofS hTE hb0 hW) (hml.trans hl.1.symm) hW.1 g_r4 z_r4 ⟨Nat.le_of_ble_eq_true rfl, Nat.le_of_ble_eq_true rfl⟩ (Nat.le_of_ble_eq_true rfl) d_PM_place_26 (covers_of_empty hne _) hlocks (cE_x (some_fst h)) (fun _ _ t9 => qx_xi h z_r4 hW t9) hW.2.2.2)
        · rw [if_neg z_r3] at h
          exact tx_lpx (some_fst h) (cl_PM_68_x (rest := []) C hfl (TE.ofS hTE hb0 hW) (hml.trans hl.1.symm) hW.1 g_r3 z_r3 ⟨Nat.le_of_ble_eq_true rfl, Nat.le_of_ble_eq_true rfl⟩ (Nat.le_of_ble_eq_true rfl) d_PM_place_14 (covers_of_empty hne _) hlocks (cE_x (some_fst h)) (fun _ _ t9 => qx_xi h z_r3 hW t9) hW.2.2.2)
      exact k10 a1 a2 σ h _ _ hW _ (lv_sub hl [0, 1, 2] rfl)
    · rw [if_neg z_r2] at h
      exact tx_lpx (some_fst h) (cl_PM_63_x (rest := []) C hfl (TE.ofS hTE hb0 hW) (hml.trans hl.1.symm) hW.1 g_r2 z_r2 ⟨Nat.le_of_ble_eq_true rfl, Nat.le_of_ble_eq_true rfl⟩ (Nat.le_of_ble_eq_true rfl) d_PM_place_7 (covers_of_empty hne _) hlocks (cE_x (some_fst h)) (fun _ _ t9 => qx_xi h z_r2 hW t9) hW.2.2.2)
abbrev wl_PM_object : List Cond := .code ⟨"PlaceMoves", "object", "(IIII)I"⟩ prog_1_method_3_code 5 (some FieldType.int) :: WG
set_option maxHeartbeats 4000000 in
set_option maxRecDepth 100000 in
theorem c_PM_object (l : Launch) (hfl : l.flags = pinnedFlags ++ [noTraceFlag]) (b0 : Nat) (G : va_G) (ad : Nat → Nat) (cI cZ : ClassId) (hD : DX ad) (hb0 : ∀ k, k < 32 → b0 ≤ ad k) (σ : Sg) (a1 : Int32) (a2 : Int32) (a3 : Int32) (a4 : Int32) (out : Nat × Int32 × Sg) (h : f_PM_object σ a1 a2 a3 a4 = some out) : tx_Met l ⟨"PlaceMoves", "object", "(IIII)I"⟩ wl_PM_object (rmE 7 112 out.1) (PcT b0 G ad cI cZ σ [.ref (ad 0), .int a1, .int a2, .int a3, .int a4]) (QXi G ad cI cZ out) (cE out.1) (6 * cE out.1) (AX ad) := by
  refine tx_ofW (cc := prog_1_method_3_code) (maxL := 5) (ret := (some FieldType.int)) (by decide) rfl ?_
  intro p e s m args below meth c s₁ B hml hv
  obtain ⟨rfl, hP, hK, hTE⟩ := hv
  have hx := B.exec
  have hb := B.bytes
  have hr := B.returns
  have hts0 := atoms_spec (ws := wl_PM_object) B.pre
  have hts : ∀ w ∈ WG, w.before _ s = true := fun w hw => hts0 w (List.mem_cons_of_mem _ hw)
  have hne := B.noHandlers (hts0 _ List.mem_cons_self)
  have hown : s.vm.findClass "PlaceMoves" = some m.cls := findClass_of_methodNamed B.named
  have hlocks := B.notSynchronized
  have C : CX "PlaceMoves" prog_1_method_3_code p s m _ c G cI cZ := ⟨hx, hb, hown, hts, hK⟩
  have hl := lv_entry ([.ref (ad 0), .int a1, .int a2, .int a3, .int a4]) (n := 5) (Nat.le_of_ble_eq_true rfl)
  rw [lg_entry_eq]
  generalize (lg_sl ([.ref (ad 0), .int a1, .int a2, .int a3, .int a4]) ++ List.replicate (5 - (lg_sl ([.ref (ad 0), .int a1, .int a2, .int a3, .int a4])).length) Slot.unset).toArray = ls at hl ⊢
  have hl : lv_has ls 5 [(0, .ref (ad 0)), (1, .int a1), (2, .int a2), (3, .int a3), (4, .int a4)] := hl
  unfold f_PM_object at h
  have hW : WS G ad cI cZ s σ s.heap [] := ⟨hP, va_S.rf⟩
  refine lv_iload_n hx hb d_PM_object_0 rfl (lv_at hl 1 rfl) ?_
  refine lv_iconst (v := 1) hx hb d_PM_object_1 (by decide) ?_
  refine lv_sipush (v := 10000) hx hb d_PM_object_2 (by decide) ?_
  obtain ⟨r1, g_r1, h⟩ := ob_some h
  by_cases z_r1 : r1 = 0
  · rw [if_pos z_r1] at h
    refine cl_PM_68 (rest := []) C hfl (TE.ofS hTE hb0 hW) (hml.trans hl.1.symm) hW.1 g_r1 z_r1 ⟨Nat.le_of_ble_eq_true rfl, Nat.le_of_ble_eq_true rfl⟩ (Nat.le_of_ble_eq_true rfl) d_PM_object_5 ⟨Nat.zero_le _, Nat.zero_le _⟩ ?_
    refine lv_iload_n hx hb d_PM_object_8 rfl (lv_at hl 2 rfl) ?_
    refine lv_iconst (v := 1) hx hb d_PM_object_9 (by decide) ?_
    refine lv_sipush (v := 10000) hx hb d_PM_object_10 (by decide) ?_
    obtain ⟨r2, g_r2, h⟩ := ob_some h
    by_cases z_r2 : r2 = 0
    · rw [if_pos z_r2] at h
      refine cl_PM_68 (rest := []) C hfl (TE.ofS hTE hb0 hW) (hml.trans hl.1.symm) hW.1 g_r2 z_r2 ⟨Nat.le_of_ble_eq_true rfl, Nat.le_of_ble_eq_true rfl⟩ (Nat.le_of_ble_eq_true rfl) d_PM_object_13 ⟨Nat.zero_le _, Nat.zero_le _⟩ ?_
      refine lv_iload_n hx hb d_PM_object_16 rfl (lv_at hl 3 rfl) ?_
      refine lv_iconst (v := 1) hx hb d_PM_object_17 (by decide) ?_
      refine lv_sipush (v := 10000) hx hb d_PM_object_18 (by decide) ?_
      obtain ⟨r3, g_r3, h⟩ := ob_some h
      by_cases z_r3 : r3 = 0
      · rw [if_pos z_r3] at h
        refine cl_PM_68 (rest := []) C hfl (TE.ofS hTE hb0 hW) (hml.trans hl.1.symm) hW.1 g_r3 z_r3 ⟨Nat.le_of_ble_eq_true rfl, Nat.le_of_ble_eq_true rfl⟩ (Nat.le_of_ble_eq_true rfl) d_PM_object_21 ⟨Nat.zero_le _, Nat.zero_le _⟩ ?_
        refine lv_iload hx hb d_PM_object_24 (lv_at hl 4 rfl) ?_
        refine lv_iconst (v := 1) hx hb d_PM_object_26 (by decide) ?_
        refine lv_ldc (v := 1000000) hx hb hown (hts _ w_343) d_PM_object_27 ?_
        obtain ⟨r4, g_r4, h⟩ := ob_some h
        by_cases z_r4 : r4 = 0
        · rw [if_pos z_r4] at h
          refine cl_PM_68 (rest := []) C hfl (TE.ofS hTE hb0 hW) (hml.trans hl.1.symm) hW.1 g_r4 z_r4 ⟨Nat.le_of_ble_eq_true rfl, Nat.le_of_ble_eq_true rfl⟩ (Nat.le_of_ble_eq_true rfl) d_PM_object_29 ⟨Nat.zero_le _, Nat.zero_le _⟩ ?_
          refine lv_aload_n hx hb d_PM_object_32 rfl (lv_at hl 0 rfl) ?_
          refine gf_PM_19 C hW.1 d_PM_object_33 ?_
          refine gf_PM_84 C hW.1 d_PM_object_36 ?_
          refine lv_bipush (v := 20) hx hb d_PM_object_39 (by decide) ?_
          obtain ⟨r5, g_r5, h⟩ := ob_some h
          by_cases z_r5 : r5 = 0
          · rw [if_pos z_r5] at h
            refine cl_PM_75 (rest := []) C hfl (TE.ofS hTE hb0 hW) (hml.trans hl.1.symm) hW.1 g_r5 z_r5 ⟨Nat.le_of_ble_eq_true rfl, Nat.le_of_ble_eq_true rfl⟩ (Nat.le_of_ble_eq_true rfl) d_PM_object_41 ⟨Nat.zero_le _, Nat.zero_le _⟩ ?_
            refine lv_aload_n hx hb d_PM_object_44 rfl (lv_at hl 0 rfl) ?_
            refine gf_PM_19 C hW.1 d_PM_object_45 ?_
            refine lv_iload_n hx hb d_PM_object_48 rfl (lv_at hl 1 rfl) ?_
            refine lv_iload_n hx hb d_PM_object_49 rfl (lv_at hl 2 rfl) ?_
            refine lv_iload_n hx hb d_PM_object_50 rfl (lv_at hl 3 rfl) ?_
            refine lv_iload hx hb d_PM_object_51 (lv_at hl 4 rfl) ?_
            obtain ⟨r6, g_r6, h⟩ := ob_some h
            refine cl_PM_85 (rest := []) C hD (hml.trans hl.1.symm) hW g_r6 ⟨Nat.le_of_ble_eq_true rfl, Nat.le_of_ble_eq_true rfl⟩ (Nat.le_of_ble_eq_true rfl) d_PM_object_53 ⟨Nat.zero_le _, Nat.zero_le _⟩ (fun H locs hW => ?_)
            exact tx_leafx (some_fst h) (W.iret hx hb hr (fun t ht _ => qx_i h ht hW) hW.2.2.2 d_PM_object_56)
          · rw [if_neg z_r5] at h
            exact tx_lpx (some_fst h) (cl_PM_75_x (rest := []) C hfl (TE.ofS hTE hb0 hW) (hml.trans hl.1.symm) hW.1 g_r5 z_r5 ⟨Nat.le_of_ble_eq_true rfl, Nat.le_of_ble_eq_true rfl⟩ (Nat.le_of_ble_eq_true rfl) d_PM_object_41 (covers_of_empty hne _) hlocks (cE_x (some_fst h)) (fun _ _ t9 => qx_xi h z_r5 hW t9) hW.2.2.2)
        · rw [if_neg z_r4] at h
          exact tx_lpx (some_fst h) (cl_PM_68_x (rest := []) C hfl (TE.ofS hTE hb0 hW) (hml.trans hl.1.symm) hW.1 g_r4 z_r4 ⟨Nat.le_of_ble_eq_true rfl, Nat.le_of_ble_eq_true rfl⟩ (Nat.le_of_ble_eq_true rfl) d_PM_object_29 (covers_of_empty hne _) hlocks (cE_x (some_fst h)) (fun _ _ t9 => qx_xi h z_r4 hW t9) hW.2.2.2)
      · rw [if_neg z_r3] at h
        exact tx_lpx (some_fst h) (cl_PM_68_x (rest := []) C hfl (TE.ofS hTE hb0 hW) (hml.trans hl.1.symm) hW.1 g_r3 z_r3 ⟨Nat.le_of_ble_eq_true rfl, Nat.le_of_ble_eq_true rfl⟩ (Nat.le_of_ble_eq_true rfl) d_PM_object_21 (covers_of_empty hne _) hlocks (cE_x (some_fst h)) (fun _ _ t9 => qx_xi h z_r3 hW t9) hW.2.2.2)
    · rw [if_neg z_r2] at h
      exact tx_lpx (some_fst h) (cl_PM_68_x (rest := []) C hfl (TE.ofS hTE hb0 hW) (hml.trans hl.1.symm) hW.1 g_r2 z_r2 ⟨Nat.le_of_ble_eq_true rfl, Nat.le_of_ble_eq_true rfl⟩ (Nat.le_of_ble_eq_true rfl) d_PM_object_13 (covers_of_empty hne _) hlocks (cE_x (some_fst h)) (fun _ _ t9 => qx_xi h z_r2 hW t9) hW.2.2.2)
  · rw [if_neg z_r1] at h
    exact tx_lpx (some_fst h) (cl_PM_68_x (rest := []) C hfl (TE.ofS hTE hb0 hW) (hml.trans hl.1.symm) hW.1 g_r1 z_r1 ⟨Nat.le_of_ble_eq_true rfl, Nat.le_of_ble_eq_true rfl⟩ (Nat.le_of_ble_eq_true rfl) d_PM_object_5 (covers_of_empty hne _) hlocks (cE_x (some_fst h)) (fun _ _ t9 => qx_xi h z_r1 hW t9) hW.2.2.2)
abbrev wl_PM_keys : List Cond := .code ⟨"PlaceMoves", "keys", "(II)I"⟩ prog_1_method_4_code 4 (some FieldType.int) :: WG
set_option maxHeartbeats 4000000 in
set_option maxRecDepth 100000 in
theorem c_PM_keys (l : Launch) (hfl : l.flags = pinnedFlags ++ [noTraceFlag]) (b0 : Nat) (G : va_G) (ad : Nat → Nat) (cI cZ : ClassId) (hD : DX ad) (hb0 : ∀ k, k < 32 → b0 ≤ ad k) (σ : Sg) (a1 : Int32) (a2 : Int32) (out : Nat × Int32 × Sg) (h : f_PM_keys σ a1 a2 = some out) : tx_Met l ⟨"PlaceMoves", "keys", "(II)I"⟩ wl_PM_keys (rmE 8 132 out.1) (PcT b0 G ad cI cZ σ [.ref (ad 0), .int a1, .int a2]) (QXi G ad cI cZ out) (cE out.1) (6 * cE out.1) (AX ad) := by
  refine tx_ofW (cc := prog_1_method_4_code) (maxL := 4) (ret := (some FieldType.int)) (by decide) rfl ?_
  intro p e s m args below meth c s₁ B hml hv
  obtain ⟨rfl, hP, hK, hTE⟩ := hv
  have hx := B.exec
  have hb := B.bytes
  have hr := B.returns
  have hts0 := atoms_spec (ws := wl_PM_keys) B.pre
  have hts : ∀ w ∈ WG, w.before _ s = true := fun w hw => hts0 w (List.mem_cons_of_mem _ hw)
  have hne := B.noHandlers (hts0 _ List.mem_cons_self)
  have hown : s.vm.findClass "PlaceMoves" = some m.cls := findClass_of_methodNamed B.named
  have hlocks := B.notSynchronized
  have C : CX "PlaceMoves" prog_1_method_4_code p s m _ c G cI cZ := ⟨hx, hb, hown, hts, hK⟩
  have hl := lv_entry ([.ref (ad 0), .int a1, .int a2]) (n := 4) (Nat.le_of_ble_eq_true rfl)
  rw [lg_entry_eq]
  generalize (lg_sl ([.ref (ad 0), .int a1, .int a2]) ++ List.replicate (4 - (lg_sl ([.ref (ad 0), .int a1, .int a2])).length) Slot.unset).toArray = ls at hl ⊢
  have hl : lv_has ls 4 [(0, .ref (ad 0)), (1, .int a1), (2, .int a2)] := hl
  unfold f_PM_keys at h
  have hW : WS G ad cI cZ s σ s.heap [] := ⟨hP, va_S.rf⟩
  refine lv_aload_n hx hb d_PM_keys_0 rfl (lv_at hl 0 rfl) ?_
  refine lv_iload_n hx hb d_PM_keys_1 rfl (lv_at hl 1 rfl) ?_
  obtain ⟨r1, g_r1, h⟩ := ob_some h
  by_cases z_r1 : r1 = 0
  · rw [if_pos z_r1] at h
    refine cl_PM_88 (rest := []) C hfl (TE.ofS hTE hb0 hW) (hml.trans hl.1.symm) hW.1 g_r1 z_r1 ⟨Nat.le_of_ble_eq_true rfl, Nat.le_of_ble_eq_true rfl⟩ (Nat.le_of_ble_eq_true rfl) d_PM_keys_2 ⟨Nat.zero_le _, Nat.zero_le _⟩ ?_
    refine lv_iload_n hx hb d_PM_keys_5 rfl (lv_at hl 2 rfl) ?_
    refine lv_iconst (v := 0) hx hb d_PM_keys_6 (by decide) ?_
    refine lv_iconst (v := 2) hx hb d_PM_keys_7 (by decide) ?_
    obtain ⟨r2, g_r2, h⟩ := ob_some h
    by_cases z_r2 : r2 = 0
    · rw [if_pos z_r2] at h
      refine cl_PM_68 (rest := []) C hfl (TE.ofS hTE hb0 hW) (hml.trans hl.1.symm) hW.1 g_r2 z_r2 ⟨Nat.le_of_ble_eq_true rfl, Nat.le_of_ble_eq_true rfl⟩ (Nat.le_of_ble_eq_true rfl) d_PM_keys_8 ⟨Nat.zero_le _, Nat.zero_le _⟩ ?_
      refine lv_aload_n hx hb d_PM_keys_11 rfl (lv_at hl 0 rfl) ?_
      refine gf_PM_19 C hW.1 d_PM_keys_12 ?_
      refine gf_PM_91 C hW.1 d_PM_keys_15 ?_
      refine lv_iload_n hx hb d_PM_keys_18 rfl (lv_at hl 1 rfl) ?_
      obtain ⟨hin, h⟩ := gd_some h
      refine al_15 C hW.1 hin d_PM_keys_19 ?_
      obtain ⟨y3, e_y3, h⟩ := lt1_some h
      refine W.eq (g2 := F0 m 20 ls (.int y3 :: [])) (by rw [e_y3]) ?_
      refine lv_istore_n (lv' := [(3, .int y3), (0, .ref (ad 0)), (1, .int a1), (2, .int a2)]) hx hb d_PM_keys_20 rfl hl (by decide) rfl (fun ls hl => ?_)
      refine lv_aload_n hx hb d_PM_keys_21 rfl (lv_at hl 1 rfl) ?_
      refine gf_PM_19 C hW.1 d_PM_keys_22 ?_
      refine gf_PM_91 C hW.1 d_PM_keys_25 ?_
      refine lv_iload_n hx hb d_PM_keys_28 rfl (lv_at hl 2 rfl) ?_
      refine lv_iload_n hx hb d_PM_keys_29 rfl (lv_at hl 3 rfl) ?_
      obtain ⟨hin, h⟩ := gd_some h
      refine as_15 C hD hW hin d_PM_keys_30 (fun H locs hW => ?_)
      obtain ⟨σ4, e_σ4, h⟩ := lt1_some h
      rw [← e_σ4] at hW
      refine lv_iload_n hx hb d_PM_keys_31 rfl (lv_at hl 0 rfl) ?_
      exact tx_leafx (some_fst h) (W.iret hx hb hr (fun t ht _ => qx_i h ht hW) hW.2.2.2 d_PM_keys_32)
    · rw [if_neg z_r2] at h
      exact tx_lpx (some_fst h) (cl_PM_68_x (rest := []) C hfl (TE.ofS hTE hb0 hW) (hml.trans hl.1.symm) hW.1 g_r2 z_r2 ⟨Nat.le_of_ble_eq_true rfl, Nat.le_of_ble_eq_true rfl⟩ (Nat.le_of_ble_eq_true rfl) d_PM_keys_8 (covers_of_empty hne _) hlocks (cE_x (some_fst h)) (fun _ _ t9 => qx_xi h z_r2 hW t9) hW.2.2.2)
  · rw [if_neg z_r1] at h
    exact tx_lpx (some_fst h) (cl_PM_88_x (rest := []) C hfl (TE.ofS hTE hb0 hW) (hml.trans hl.1.symm) hW.1 g_r1 z_r1 ⟨Nat.le_of_ble_eq_true rfl, Nat.le_of_ble_eq_true rfl⟩ (Nat.le_of_ble_eq_true rfl) d_PM_keys_2 (covers_of_empty hne _) hlocks (cE_x (some_fst h)) (fun _ _ t9 => qx_xi h z_r1 hW t9) hW.2.2.2)
abbrev wl_PM_key : List Cond := .code ⟨"PlaceMoves", "key", "(IZ)Z"⟩ prog_1_method_5_code 4 (some FieldType.boolean) :: WG
set_option maxHeartbeats 4000000 in
set_option maxRecDepth 100000 in
theorem c_PM_key (l : Launch) (hfl : l.flags = pinnedFlags ++ [noTraceFlag]) (b0 : Nat) (G : va_G) (ad : Nat → Nat) (cI cZ : ClassId) (hD : DX ad) (hb0 : ∀ k, k < 32 → b0 ≤ ad k) (σ : Sg) (a1 : Int32) (a2 : Int32) (out : Nat × Int32 × Sg) (h : f_PM_key σ a1 a2 = some out) : tx_Met l ⟨"PlaceMoves", "key", "(IZ)Z"⟩ wl_PM_key (rmE 8 132 out.1) (PcT b0 G ad cI cZ σ [.ref (ad 0), .int a1, .int a2]) (QXi G ad cI cZ out) (cE out.1) (6 * cE out.1) (AX ad) := by
  refine tx_ofW (cc := prog_1_method_5_code) (maxL := 4) (ret := (some FieldType.boolean)) (by decide) rfl ?_
  intro p e s m args below meth c s₁ B hml hv
  obtain ⟨rfl, hP, hK, hTE⟩ := hv
  have hx := B.exec
  have hb := B.bytes
  have hr := B.returns
  have hts0 := atoms_spec (ws := wl_PM_key) B.pre
  have hts : ∀ w ∈ WG, w.before _ s = true := fun w hw => hts0 w (List.mem_cons_of_mem _ hw)
  have hne := B.noHandlers (hts0 _ List.mem_cons_self)
  have hown : s.vm.findClass "PlaceMoves" = some m.cls := findClass_of_methodNamed B.named
  have hlocks := B.notSynchronized
  have C : CX "PlaceMoves" prog_1_method_5_code p s m _ c G cI cZ := ⟨hx, hb, hown, hts, hK⟩
  have hl := lv_entry ([.ref (ad 0), .int a1, .int a2]) (n := 4) (Nat.le_of_ble_eq_true rfl)
  rw [lg_entry_eq]
  generalize (lg_sl ([.ref (ad 0), .int a1, .int a2]) ++ List.replicate (4 - (lg_sl ([.ref (ad 0), .int a1, .int a2])).length) Slot.unset).toArray = ls at hl ⊢
  have hl : lv_has ls 4 [(0, .ref (ad 0)), (1, .int a1), (2, .int a2)] := hl
  unfold f_PM_key at h
  have hW : WS G ad cI cZ s σ s.heap [] := ⟨hP, va_S.rf⟩
  refine lv_aload_n hx hb d_PM_key_0 rfl (lv_at hl 0 rfl) ?_
  refine lv_iload_n hx hb d_PM_key_1 rfl (lv_at hl 1 rfl) ?_
  obtain ⟨r1, g_r1, h⟩ := ob_some h
  by_cases z_r1 : r1 = 0
  · rw [if_pos z_r1] at h
    refine cl_PM_94 (rest := []) C hfl (TE.ofS hTE hb0 hW) (hml.trans hl.1.symm) hW.1 g_r1 z_r1 ⟨Nat.le_of_ble_eq_true rfl, Nat.le_of_ble_eq_true rfl⟩ (Nat.le_of_ble_eq_true rfl) d_PM_key_2 ⟨Nat.zero_le _, Nat.zero_le _⟩ ?_
    refine lv_aload_n hx hb d_PM_key_5 rfl (lv_at hl 0 rfl) ?_
    refine gf_PM_51 C hW.1 d_PM_key_6 ?_
    refine lv_iload_n hx hb d_PM_key_9 rfl (lv_at hl 1 rfl) ?_
    obtain ⟨hin, h⟩ := gd_some h
    refine al_7 C hW.1 hin d_PM_key_10 ?_
    refine lv_iload_n hx hb d_PM_key_11 rfl (lv_at hl 2 rfl) ?_
    refine lv_icmp_eq (tgt := 19) hx hb d_PM_key_12 (by decide) (fun c2 => ?_) (fun c2 => ?_)
    · rw [if_pos c2] at h
      refine lv_iconst (v := 0) hx hb d_PM_key_19 (by decide) ?_
      refine lv_istore_n (lv' := [(3, .int 0), (0, .ref (ad 0)), (1, .int a1), (2, .int a2)]) hx hb d_PM_key_20 rfl hl (by decide) rfl (fun ls hl => ?_)
      refine lv_aload_n hx hb d_PM_key_21 rfl (lv_at hl 1 rfl) ?_
      refine gf_PM_51 C hW.1 d_PM_key_22 ?_
      refine lv_iload_n hx hb d_PM_key_25 rfl (lv_at hl 2 rfl) ?_
      refine lv_iload_n hx hb d_PM_key_26 rfl (lv_at hl 3 rfl) ?_
      obtain ⟨hin, h⟩ := gd_some h
      refine as_7 C hD hW hin d_PM_key_27 (fun H locs hW => ?_)
      obtain ⟨σ4, e_σ4, h⟩ := lt1_some h
      rw [← e_σ4] at hW
      refine lv_iload_n hx hb d_PM_key_28 rfl (lv_at hl 0 rfl) ?_
      exact tx_leafx (some_fst h) (W.zret hx hb hr rfl (fun t ht _ => qx_i h ht hW) hW.2.2.2 d_PM_key_29)
    · rw [if_neg c2] at h
      refine lv_iconst (v := 1) hx hb d_PM_key_15 (by decide) ?_
      refine lv_goto (tgt := 20) hx hb d_PM_key_16 (by decide) ?_
      refine lv_istore_n (lv' := [(3, .int 1), (0, .ref (ad 0)), (1, .int a1), (2, .int a2)]) hx hb d_PM_key_20 rfl hl (by decide) rfl (fun ls hl => ?_)
      refine lv_aload_n hx hb d_PM_key_21 rfl (lv_at hl 1 rfl) ?_
      refine gf_PM_51 C hW.1 d_PM_key_22 ?_
      refine lv_iload_n hx hb d_PM_key_25 rfl (lv_at hl 2 rfl) ?_
      refine lv_iload_n hx hb d_PM_key_26 rfl (lv_at hl 3 rfl) ?_
      obtain ⟨hin, h⟩ := gd_some h
      refine as_7 C hD hW hin d_PM_key_27 (fun H locs hW => ?_)
      obtain ⟨σ3, e_σ3, h⟩ := lt1_some h
      rw [← e_σ3] at hW
      refine lv_iload_n hx hb d_PM_key_28 rfl (lv_at hl 0 rfl) ?_
      exact tx_leafx (some_fst h) (W.zret hx hb hr rfl (fun t ht _ => qx_i h ht hW) hW.2.2.2 d_PM_key_29)
  · rw [if_neg z_r1] at h
    exact tx_lpx (some_fst h) (cl_PM_94_x (rest := []) C hfl (TE.ofS hTE hb0 hW) (hml.trans hl.1.symm) hW.1 g_r1 z_r1 ⟨Nat.le_of_ble_eq_true rfl, Nat.le_of_ble_eq_true rfl⟩ (Nat.le_of_ble_eq_true rfl) d_PM_key_2 (covers_of_empty hne _) hlocks (cE_x (some_fst h)) (fun _ _ t9 => qx_xi h z_r1 hW t9) hW.2.2.2)
abbrev wl_PM_box : List Cond := .code ⟨"PlaceMoves", "box", "(I)Z"⟩ prog_1_method_6_code 3 (some FieldType.boolean) :: WG
set_option maxHeartbeats 4000000 in
set_option maxRecDepth 100000 in
theorem c_PM_box (l : Launch) (hfl : l.flags = pinnedFlags ++ [noTraceFlag]) (b0 : Nat) (G : va_G) (ad : Nat → Nat) (cI cZ : ClassId) (hD : DX ad) (hb0 : ∀ k, k < 32 → b0 ≤ ad k) (σ : Sg) (a1 : Int32) (out : Nat × Int32 × Sg) (h : f_PM_box σ a1 = some out) : tx_Met l ⟨"PlaceMoves", "box", "(I)Z"⟩ wl_PM_box (rmE 8 132 out.1) (PcT b0 G ad cI cZ σ [.ref (ad 0), .int a1]) (QXi G ad cI cZ out) (cE out.1) (6 * cE out.1) (AX ad) := by
  refine tx_ofW (cc := prog_1_method_6_code) (maxL := 3) (ret := (some FieldType.boolean)) (by decide) rfl ?_
  intro p e s m args below meth c s₁ B hml hv
  obtain ⟨rfl, hP, hK, hTE⟩ := hv
  have hx := B.exec
  have hb := B.bytes
  have hr := B.returns
  have hts0 := atoms_spec (ws := wl_PM_box) B.pre
  have hts : ∀ w ∈ WG, w.before _ s = true := fun w hw => hts0 w (List.mem_cons_of_mem _ hw)
  have hne := B.noHandlers (hts0 _ List.mem_cons_self)
  have hown : s.vm.findClass "PlaceMoves" = some m.cls := findClass_of_methodNamed B.named
  have hlocks := B.notSynchronized
  have C : CX "PlaceMoves" prog_1_method_6_code p s m _ c G cI cZ := ⟨hx, hb, hown, hts, hK⟩
  have hl := lv_entry ([.ref (ad 0), .int a1]) (n := 3) (Nat.le_of_ble_eq_true rfl)
  rw [lg_entry_eq]
  generalize (lg_sl ([.ref (ad 0), .int a1]) ++ List.replicate (3 - (lg_sl ([.ref (ad 0), .int a1])).length) Slot.unset).toArray = ls at hl ⊢
  have hl : lv_has ls 3 [(0, .ref (ad 0)), (1, .int a1)] := hl
  unfold f_PM_box at h
  have hW : WS G ad cI cZ s σ s.heap [] := ⟨hP, va_S.rf⟩
  refine lv_aload_n hx hb d_PM_box_0 rfl (lv_at hl 0 rfl) ?_
  refine lv_iload_n hx hb d_PM_box_1 rfl (lv_at hl 1 rfl) ?_
  obtain ⟨r1, g_r1, h⟩ := ob_some h
  by_cases z_r1 : r1 = 0
  · rw [if_pos z_r1] at h
    refine cl_PM_88 (rest := []) C hfl (TE.ofS hTE hb0 hW) (hml.trans hl.1.symm) hW.1 g_r1 z_r1 ⟨Nat.le_of_ble_eq_true rfl, Nat.le_of_ble_eq_true rfl⟩ (Nat.le_of_ble_eq_true rfl) d_PM_box_2 ⟨Nat.zero_le _, Nat.zero_le _⟩ ?_
    refine lv_aload_n hx hb d_PM_box_5 rfl (lv_at hl 0 rfl) ?_
    refine gf_PM_19 C hW.1 d_PM_box_6 ?_
    refine gf_PM_97 C hW.1 d_PM_box_9 ?_
    refine lv_iload_n hx hb d_PM_box_12 rfl (lv_at hl 1 rfl) ?_
    obtain ⟨hin, h⟩ := gd_some h
    refine al_16 C hW.1 hin d_PM_box_13 ?_
    refine lv_if_ne (tgt := 21) hx hb d_PM_box_14 (by decide) (fun c2 => ?_) (fun c2 => ?_)
    · rw [if_neg c2] at h
      refine lv_iconst (v := 0) hx hb d_PM_box_21 (by decide) ?_
      refine lv_istore_n (lv' := [(2, .int 0), (0, .ref (ad 0)), (1, .int a1)]) hx hb d_PM_box_22 rfl hl (by decide) rfl (fun ls hl => ?_)
      refine lv_aload_n hx hb d_PM_box_23 rfl (lv_at hl 1 rfl) ?_
      refine gf_PM_19 C hW.1 d_PM_box_24 ?_
      refine gf_PM_97 C hW.1 d_PM_box_27 ?_
      refine lv_iload_n hx hb d_PM_box_30 rfl (lv_at hl 2 rfl) ?_
      refine lv_iconst (v := 1) hx hb d_PM_box_31 (by decide) ?_
      obtain ⟨hin, h⟩ := gd_some h
      refine as_16 C hD hW hin d_PM_box_32 (fun H locs hW => ?_)
      obtain ⟨σ4, e_σ4, h⟩ := lt1_some h
      rw [← e_σ4] at hW
      refine lv_iload_n hx hb d_PM_box_33 rfl (lv_at hl 0 rfl) ?_
      exact tx_leafx (some_fst h) (W.zret hx hb hr rfl (fun t ht _ => qx_i h ht hW) hW.2.2.2 d_PM_box_34)
    · rw [if_pos c2] at h
      refine lv_iconst (v := 1) hx hb d_PM_box_17 (by decide) ?_
      refine lv_goto (tgt := 22) hx hb d_PM_box_18 (by decide) ?_
      refine lv_istore_n (lv' := [(2, .int 1), (0, .ref (ad 0)), (1, .int a1)]) hx hb d_PM_box_22 rfl hl (by decide) rfl (fun ls hl => ?_)
      refine lv_aload_n hx hb d_PM_box_23 rfl (lv_at hl 1 rfl) ?_
      refine gf_PM_19 C hW.1 d_PM_box_24 ?_
      refine gf_PM_97 C hW.1 d_PM_box_27 ?_
      refine lv_iload_n hx hb d_PM_box_30 rfl (lv_at hl 2 rfl) ?_
      refine lv_iconst (v := 1) hx hb d_PM_box_31 (by decide) ?_
      obtain ⟨hin, h⟩ := gd_some h
      refine as_16 C hD hW hin d_PM_box_32 (fun H locs hW => ?_)
      obtain ⟨σ3, e_σ3, h⟩ := lt1_some h
      rw [← e_σ3] at hW
      refine lv_iload_n hx hb d_PM_box_33 rfl (lv_at hl 0 rfl) ?_
      exact tx_leafx (some_fst h) (W.zret hx hb hr rfl (fun t ht _ => qx_i h ht hW) hW.2.2.2 d_PM_box_34)
  · rw [if_neg z_r1] at h
    exact tx_lpx (some_fst h) (cl_PM_88_x (rest := []) C hfl (TE.ofS hTE hb0 hW) (hml.trans hl.1.symm) hW.1 g_r1 z_r1 ⟨Nat.le_of_ble_eq_true rfl, Nat.le_of_ble_eq_true rfl⟩ (Nat.le_of_ble_eq_true rfl) d_PM_box_2 (covers_of_empty hne _) hlocks (cE_x (some_fst h)) (fun _ _ t9 => qx_xi h z_r1 hW t9) hW.2.2.2)
abbrev wl_PM_move : List Cond := .code ⟨"PlaceMoves", "move", "(IIIII)I"⟩ prog_1_method_7_code 6 (some FieldType.int) :: WG
set_option maxHeartbeats 4000000 in
set_option maxRecDepth 100000 in
theorem c_PM_move (l : Launch) (hfl : l.flags = pinnedFlags ++ [noTraceFlag]) (b0 : Nat) (G : va_G) (ad : Nat → Nat) (cI cZ : ClassId) (hD : DX ad) (hb0 : ∀ k, k < 32 → b0 ≤ ad k) (σ : Sg) (a1 : Int32) (a2 : Int32) (a3 : Int32) (a4 : Int32) (a5 : Int32) (out : Nat × Int32 × Sg) (h : f_PM_move σ a1 a2 a3 a4 a5 = some out) : tx_Met l ⟨"PlaceMoves", "move", "(IIIII)I"⟩ wl_PM_move (rmE 8 165 out.1) (PcT b0 G ad cI cZ σ [.ref (ad 0), .int a1, .int a2, .int a3, .int a4, .int a5]) (QXi G ad cI cZ out) (cE out.1) (6 * cE out.1) (AX ad) := by
  refine tx_ofW (cc := prog_1_method_7_code) (maxL := 6) (ret := (some FieldType.int)) (by decide) rfl ?_
  intro p e s m args below meth c s₁ B hml hv
  obtain ⟨rfl, hP, hK, hTE⟩ := hv
  have hx := B.exec
  have hb := B.bytes
  have hr := B.returns
  have hts0 := atoms_spec (ws := wl_PM_move) B.pre
  have hts : ∀ w ∈ WG, w.before _ s = true := fun w hw => hts0 w (List.mem_cons_of_mem _ hw)
  have hne := B.noHandlers (hts0 _ List.mem_cons_self)
  have hown : s.vm.findClass "PlaceMoves" = some m.cls := findClass_of_methodNamed B.named
  have hlocks := B.notSynchronized
  have C : CX "PlaceMoves" prog_1_method_7_code p s m _ c G cI cZ := ⟨hx, hb, hown, hts, hK⟩
  have hl := lv_entry ([.ref (ad 0), .int a1, .int a2, .int a3, .int a4, .int a5]) (n := 6) (Nat.le_of_ble_eq_true rfl)
  rw [lg_entry_eq]
  generalize (lg_sl ([.ref (ad 0), .int a1, .int a2, .int a3, .int a4, .int a5]) ++ List.replicate (6 - (lg_sl ([.ref (ad 0), .int a1, .int a2, .int a3, .int a4, .int a5])).length) Slot.unset).toArray = ls at hl ⊢
  have hl : lv_has ls 6 [(0, .ref (ad 0)), (1, .int a1), (2, .int a2), (3, .int a3), (4, .int a4), (5, .int a5)] := hl
  unfold f_PM_move at h
  have hW : WS G ad cI cZ s σ s.heap [] := ⟨hP, va_S.rf⟩
  refine lv_aload_n hx hb d_PM_move_0 rfl (lv_at hl 0 rfl) ?_
  refine lv_iload_n hx hb d_PM_move_1 rfl (lv_at hl 1 rfl) ?_
  obtain ⟨r1, g_r1, h⟩ := ob_some h
  by_cases z_r1 : r1 = 0
  · rw [if_pos z_r1] at h
    refine cl_PM_88 (rest := []) C hfl (TE.ofS hTE hb0 hW) (hml.trans hl.1.symm) hW.1 g_r1 z_r1 ⟨Nat.le_of_ble_eq_true rfl, Nat.le_of_ble_eq_true rfl⟩ (Nat.le_of_ble_eq_true rfl) d_PM_move_2 ⟨Nat.zero_le _, Nat.zero_le _⟩ ?_
    refine lv_aload_n hx hb d_PM_move_5 rfl (lv_at hl 0 rfl) ?_
    refine lv_iload_n hx hb d_PM_move_6 rfl (lv_at hl 2 rfl) ?_
    obtain ⟨r2, g_r2, h⟩ := ob_some h
    by_cases z_r2 : r2 = 0
    · rw [if_pos z_r2] at h
      refine cl_PM_63 (rest := []) C hfl (TE.ofS hTE hb0 hW) (hml.trans hl.1.symm) hW.1 g_r2 z_r2 ⟨Nat.le_of_ble_eq_true rfl, Nat.le_of_ble_eq_true rfl⟩ (Nat.le_of_ble_eq_true rfl) d_PM_move_7 ⟨Nat.zero_le _, Nat.zero_le _⟩ ?_
      refine lv_aload_n hx hb d_PM_move_10 rfl (lv_at hl 0 rfl) ?_
      refine lv_iload hx hb d_PM_move_11 (lv_at hl 4 rfl) ?_
      obtain ⟨r3, g_r3, h⟩ := ob_some h
      by_cases z_r3 : r3 = 0
      · rw [if_pos z_r3] at h
        refine cl_PM_94 (rest := []) C hfl (TE.ofS hTE hb0 hW) (hml.trans hl.1.symm) hW.1 g_r3 z_r3 ⟨Nat.le_of_ble_eq_true rfl, Nat.le_of_ble_eq_true rfl⟩ (Nat.le_of_ble_eq_true rfl) d_PM_move_13 ⟨Nat.zero_le _, Nat.zero_le _⟩ ?_
        refine lv_aload_n hx hb d_PM_move_16 rfl (lv_at hl 0 rfl) ?_
        refine lv_iload hx hb d_PM_move_17 (lv_at hl 5 rfl) ?_
        obtain ⟨r4, g_r4, h⟩ := ob_some h
        by_cases z_r4 : r4 = 0
        · rw [if_pos z_r4] at h
          refine cl_PM_94 (rest := []) C hfl (TE.ofS hTE hb0 hW) (hml.trans hl.1.symm) hW.1 g_r4 z_r4 ⟨Nat.le_of_ble_eq_true rfl, Nat.le_of_ble_eq_true rfl⟩ (Nat.le_of_ble_eq_true rfl) d_PM_move_19 ⟨Nat.zero_le _, Nat.zero_le _⟩ ?_
          refine lv_iload_n hx hb d_PM_move_22 rfl (lv_at hl 3 rfl) ?_
          refine lv_aload_n hx hb d_PM_move_23 rfl (lv_at hl 0 rfl) ?_
          refine gf_PM_59 C hW.1 d_PM_move_24 ?_
          refine lv_ldc (v := 1000000) hx hb hown (hts _ w_343) d_PM_move_27 ?_
          obtain ⟨r5, g_r5, h⟩ := ob_some h
          by_cases z_r5 : r5 = 0
          · rw [if_pos z_r5] at h
            refine cl_PM_68 (rest := []) C hfl (TE.ofS hTE hb0 hW) (hml.trans hl.1.symm) hW.1 g_r5 z_r5 ⟨Nat.le_of_ble_eq_true rfl, Nat.le_of_ble_eq_true rfl⟩ (Nat.le_of_ble_eq_true rfl) d_PM_move_29 ⟨Nat.zero_le _, Nat.zero_le _⟩ ?_
            refine lv_aload_n hx hb d_PM_move_32 rfl (lv_at hl 0 rfl) ?_
            refine gf_PM_26 C hW.1 d_PM_move_33 ?_
            refine gf_PM_100 C hW.1 d_PM_move_36 ?_
            refine lv_iload_n hx hb d_PM_move_39 rfl (lv_at hl 1 rfl) ?_
            obtain ⟨hin, h⟩ := gd_some h
            refine al_17 C hW.1 hin d_PM_move_40 ?_
            refine lv_bipush (v := 40) hx hb d_PM_move_41 (by decide) ?_
            obtain ⟨r6, g_r6, h⟩ := ob_some h
            by_cases z_r6 : r6 = 0
            · rw [if_pos z_r6] at h
              refine cl_PM_75 (rest := []) C hfl (TE.ofS hTE hb0 hW) (hml.trans hl.1.symm) hW.1 g_r6 z_r6 ⟨Nat.le_of_ble_eq_true rfl, Nat.le_of_ble_eq_true rfl⟩ (Nat.le_of_ble_eq_true rfl) d_PM_move_43 ⟨Nat.zero_le _, Nat.zero_le _⟩ ?_
              refine lv_aload_n hx hb d_PM_move_46 rfl (lv_at hl 0 rfl) ?_
              refine lv_iload_n hx hb d_PM_move_47 rfl (lv_at hl 1 rfl) ?_
              refine lv_iload hx hb d_PM_move_48 (lv_at hl 4 rfl) ?_
              refine lv_iload hx hb d_PM_move_50 (lv_at hl 5 rfl) ?_
              obtain ⟨r7, g_r7, h⟩ := ob_some h
              by_cases z_r7 : r7 = 0
              · rw [if_pos z_r7] at h
                refine cl_PM_102 (rest := []) C hfl (TE.ofS hTE hb0 hW) (hml.trans hl.1.symm) hW.1 g_r7 z_r7 ⟨Nat.le_of_ble_eq_true rfl, Nat.le_of_ble_eq_true rfl⟩ (Nat.le_of_ble_eq_true rfl) d_PM_move_52 ⟨Nat.zero_le _, Nat.zero_le _⟩ ?_
                refine lv_aload_n hx hb d_PM_move_55 rfl (lv_at hl 0 rfl) ?_
                refine lv_aload_n hx hb d_PM_move_56 rfl (lv_at hl 0 rfl) ?_
                refine lv_iload_n hx hb d_PM_move_57 rfl (lv_at hl 1 rfl) ?_
                refine lv_iload_n hx hb d_PM_move_58 rfl (lv_at hl 3 rfl) ?_
                obtain ⟨r8, g_r8, h⟩ := ob_some h
                refine cl_PM_105 (rest := [.ref (ad 0)]) C (hml.trans hl.1.symm) hW.1 g_r8 ⟨Nat.le_of_ble_eq_true rfl, Nat.le_of_ble_eq_true rfl⟩ (Nat.le_of_ble_eq_true rfl) d_PM_move_59 ⟨Nat.zero_le _, Nat.zero_le _⟩ ?_
                refine lv_iload_n hx hb d_PM_move_62 rfl (lv_at hl 2 rfl) ?_
                refine lv_iload_n hx hb d_PM_move_63 rfl (lv_at hl 3 rfl) ?_
                obtain ⟨r9, g_r9, h⟩ := ob_some h
                refine cl_PM_108 (rest := []) C (hml.trans hl.1.symm) hW.1 g_r9 ⟨Nat.le_of_ble_eq_true rfl, Nat.le_of_ble_eq_true rfl⟩ (Nat.le_of_ble_eq_true rfl) d_PM_move_64 ⟨Nat.zero_le _, Nat.zero_le _⟩ ?_
                refine lv_if_eq (tgt := 72) hx hb d_PM_move_67 (by decide) (fun c10 => ?_) (fun c10 => ?_)
                · rw [if_pos c10] at h
                  refine lv_aload_n hx hb d_PM_move_72 rfl (lv_at hl 0 rfl) ?_
                  refine lv_iload_n hx hb d_PM_move_73 rfl (lv_at hl 1 rfl) ?_
                  refine lv_iload_n hx hb d_PM_move_74 rfl (lv_at hl 3 rfl) ?_
                  refine lv_iconst (v := 0) hx hb d_PM_move_75 (by decide) ?_
                  refine lv_iload_n hx hb d_PM_move_76 rfl (lv_at hl 2 rfl) ?_
                  obtain ⟨r11, g_r11, h⟩ := ob_some h
                  refine cl_PM_112 (rest := []) C hD (hml.trans hl.1.symm) hW g_r11 ⟨Nat.le_of_ble_eq_true rfl, Nat.le_of_ble_eq_true rfl⟩ (Nat.le_of_ble_eq_true rfl) d_PM_move_77 ⟨Nat.zero_le _, Nat.zero_le _⟩ (fun H locs hW => ?_)
                  refine lv_if_eq (tgt := 87) hx hb d_PM_move_80 (by decide) (fun c12 => ?_) (fun c12 => ?_)
                  · rw [if_pos c12] at h
                    refine lv_iconst (v := 2) hx hb d_PM_move_87 (by decide) ?_
                    exact tx_leafx (some_fst h) (W.iret hx hb hr (fun t ht _ => qx_i h ht hW) hW.2.2.2 d_PM_move_88)
                  · rw [if_neg c12] at h
                    refine lv_iconst (v := 0) hx hb d_PM_move_83 (by decide) ?_
                    refine lv_goto (tgt := 88) hx hb d_PM_move_84 (by decide) ?_
                    exact tx_leafx (some_fst h) (W.iret hx hb hr (fun t ht _ => qx_i h ht hW) hW.2.2.2 d_PM_move_88)
                · rw [if_neg c10] at h
                  refine lv_iconst (v := 1) hx hb d_PM_move_70 (by decide) ?_
                  exact tx_leafx (some_fst h) (W.iret hx hb hr (fun t ht _ => qx_i h ht hW) hW.2.2.2 d_PM_move_71)
              · rw [if_neg z_r7] at h
                exact tx_lpx (some_fst h) (cl_PM_102_x (rest := []) C hfl (TE.ofS hTE hb0 hW) (hml.trans hl.1.symm) hW.1 g_r7 z_r7 ⟨Nat.le_of_ble_eq_true rfl, Nat.le_of_ble_eq_true rfl⟩ (Nat.le_of_ble_eq_true rfl) d_PM_move_52 (covers_of_empty hne _) hlocks (cE_x (some_fst h)) (fun _ _ t9 => qx_xi h z_r7 hW t9) hW.2.2.2)
            · rw [if_neg z_r6] at h
              exact tx_lpx (some_fst h) (cl_PM_75_x (rest := []) C hfl (TE.ofS hTE hb0 hW) (hml.trans hl.1.symm) hW.1 g_r6 z_r6 ⟨Nat.le_of_ble_eq_true rfl, Nat.le_of_ble_eq_true rfl⟩ (Nat.le_of_ble_eq_true rfl) d_PM_move_43 (covers_of_empty hne _) hlocks (cE_x (some_fst h)) (fun _ _ t9 => qx_xi h z_r6 hW t9) hW.2.2.2)
          · rw [if_neg z_r5] at h
            exact tx_lpx (some_fst h) (cl_PM_68_x (rest := []) C hfl (TE.ofS hTE hb0 hW) (hml.trans hl.1.symm) hW.1 g_r5 z_r5 ⟨Nat.le_of_ble_eq_true rfl, Nat.le_of_ble_eq_true rfl⟩ (Nat.le_of_ble_eq_true rfl) d_PM_move_29 (covers_of_empty hne _) hlocks (cE_x (some_fst h)) (fun _ _ t9 => qx_xi h z_r5 hW t9) hW.2.2.2)
        · rw [if_neg z_r4] at h
          exact tx_lpx (some_fst h) (cl_PM_94_x (rest := []) C hfl (TE.ofS hTE hb0 hW) (hml.trans hl.1.symm) hW.1 g_r4 z_r4 ⟨Nat.le_of_ble_eq_true rfl, Nat.le_of_ble_eq_true rfl⟩ (Nat.le_of_ble_eq_true rfl) d_PM_move_19 (covers_of_empty hne _) hlocks (cE_x (some_fst h)) (fun _ _ t9 => qx_xi h z_r4 hW t9) hW.2.2.2)
      · rw [if_neg z_r3] at h
        exact tx_lpx (some_fst h) (cl_PM_94_x (rest := []) C hfl (TE.ofS hTE hb0 hW) (hml.trans hl.1.symm) hW.1 g_r3 z_r3 ⟨Nat.le_of_ble_eq_true rfl, Nat.le_of_ble_eq_true rfl⟩ (Nat.le_of_ble_eq_true rfl) d_PM_move_13 (covers_of_empty hne _) hlocks (cE_x (some_fst h)) (fun _ _ t9 => qx_xi h z_r3 hW t9) hW.2.2.2)
    · rw [if_neg z_r2] at h
      exact tx_lpx (some_fst h) (cl_PM_63_x (rest := []) C hfl (TE.ofS hTE hb0 hW) (hml.trans hl.1.symm) hW.1 g_r2 z_r2 ⟨Nat.le_of_ble_eq_true rfl, Nat.le_of_ble_eq_true rfl⟩ (Nat.le_of_ble_eq_true rfl) d_PM_move_7 (covers_of_empty hne _) hlocks (cE_x (some_fst h)) (fun _ _ t9 => qx_xi h z_r2 hW t9) hW.2.2.2)
  · rw [if_neg z_r1] at h
    exact tx_lpx (some_fst h) (cl_PM_88_x (rest := []) C hfl (TE.ofS hTE hb0 hW) (hml.trans hl.1.symm) hW.1 g_r1 z_r1 ⟨Nat.le_of_ble_eq_true rfl, Nat.le_of_ble_eq_true rfl⟩ (Nat.le_of_ble_eq_true rfl) d_PM_move_2 (covers_of_empty hne _) hlocks (cE_x (some_fst h)) (fun _ _ t9 => qx_xi h z_r1 hW t9) hW.2.2.2)
end
section
abbrev wl_PM_into : List Cond := .code ⟨"PlaceMoves", "into", "(III)I"⟩ prog_1_method_8_code 4 (some FieldType.int) :: WG
set_option maxHeartbeats 4000000 in
set_option maxRecDepth 100000 in
theorem c_PM_into (l : Launch) (hfl : l.flags = pinnedFlags ++ [noTraceFlag]) (b0 : Nat) (G : va_G) (ad : Nat → Nat) (cI cZ : ClassId) (hD : DX ad) (hb0 : ∀ k, k < 32 → b0 ≤ ad k) (σ : Sg) (a1 : Int32) (a2 : Int32) (a3 : Int32) (out : Nat × Int32 × Sg) (h : f_PM_into σ a1 a2 a3 = some out) : tx_Met l ⟨"PlaceMoves", "into", "(III)I"⟩ wl_PM_into (rmE 8 165 out.1) (PcT b0 G ad cI cZ σ [.ref (ad 0), .int a1, .int a2, .int a3]) (QXi G ad cI cZ out) (cE out.1) (6 * cE out.1) (AX ad) := by
  refine tx_ofW (cc := prog_1_method_8_code) (maxL := 4) (ret := (some FieldType.int)) (by decide) rfl ?_
  intro p e s m args below meth c s₁ B hml hv
  obtain ⟨rfl, hP, hK, hTE⟩ := hv
  have hx := B.exec
  have hb := B.bytes
  have hr := B.returns
  have hts0 := atoms_spec (ws := wl_PM_into) B.pre
  have hts : ∀ w ∈ WG, w.before _ s = true := fun w hw => hts0 w (List.mem_cons_of_mem _ hw)
  have hne := B.noHandlers (hts0 _ List.mem_cons_self)
  have hown : s.vm.findClass "PlaceMoves" = some m.cls := findClass_of_methodNamed B.named
  have hlocks := B.notSynchronized
  have C : CX "PlaceMoves" prog_1_method_8_code p s m _ c G cI cZ := ⟨hx, hb, hown, hts, hK⟩
  have hl := lv_entry ([.ref (ad 0), .int a1, .int a2, .int a3]) (n := 4) (Nat.le_of_ble_eq_true rfl)
  rw [lg_entry_eq]
  generalize (lg_sl ([.ref (ad 0), .int a1, .int a2, .int a3]) ++ List.replicate (4 - (lg_sl ([.ref (ad 0), .int a1, .int a2, .int a3])).length) Slot.unset).toArray = ls at hl ⊢
  have hl : lv_has ls 4 [(0, .ref (ad 0)), (1, .int a1), (2, .int a2), (3, .int a3)] := hl
  unfold f_PM_into at h
  have hW : WS G ad cI cZ s σ s.heap [] := ⟨hP, va_S.rf⟩
  refine lv_aload_n hx hb d_PM_into_0 rfl (lv_at hl 0 rfl) ?_
  refine lv_iload_n hx hb d_PM_into_1 rfl (lv_at hl 1 rfl) ?_
  obtain ⟨r1, g_r1, h⟩ := ob_some h
  by_cases z_r1 : r1 = 0
  · rw [if_pos z_r1] at h
    refine cl_PM_88 (rest := []) C hfl (TE.ofS hTE hb0 hW) (hml.trans hl.1.symm) hW.1 g_r1 z_r1 ⟨Nat.le_of_ble_eq_true rfl, Nat.le_of_ble_eq_true rfl⟩ (Nat.le_of_ble_eq_true rfl) d_PM_into_2 ⟨Nat.zero_le _, Nat.zero_le _⟩ ?_
    refine lv_aload_n hx hb d_PM_into_5 rfl (lv_at hl 0 rfl) ?_
    refine lv_iload_n hx hb d_PM_into_6 rfl (lv_at hl 2 rfl) ?_
    obtain ⟨r2, g_r2, h⟩ := ob_some h
    by_cases z_r2 : r2 = 0
    · rw [if_pos z_r2] at h
      refine cl_PM_88 (rest := []) C hfl (TE.ofS hTE hb0 hW) (hml.trans hl.1.symm) hW.1 g_r2 z_r2 ⟨Nat.le_of_ble_eq_true rfl, Nat.le_of_ble_eq_true rfl⟩ (Nat.le_of_ble_eq_true rfl) d_PM_into_7 ⟨Nat.zero_le _, Nat.zero_le _⟩ ?_
      refine lv_iload_n hx hb d_PM_into_10 rfl (lv_at hl 3 rfl) ?_
      refine lv_aload_n hx hb d_PM_into_11 rfl (lv_at hl 0 rfl) ?_
      refine gf_PM_59 C hW.1 d_PM_into_12 ?_
      refine lv_ldc (v := 1000000) hx hb hown (hts _ w_343) d_PM_into_15 ?_
      obtain ⟨r3, g_r3, h⟩ := ob_some h
      by_cases z_r3 : r3 = 0
      · rw [if_pos z_r3] at h
        refine cl_PM_68 (rest := []) C hfl (TE.ofS hTE hb0 hW) (hml.trans hl.1.symm) hW.1 g_r3 z_r3 ⟨Nat.le_of_ble_eq_true rfl, Nat.le_of_ble_eq_true rfl⟩ (Nat.le_of_ble_eq_true rfl) d_PM_into_17 ⟨Nat.zero_le _, Nat.zero_le _⟩ ?_
        refine lv_aload_n hx hb d_PM_into_20 rfl (lv_at hl 0 rfl) ?_
        refine gf_PM_26 C hW.1 d_PM_into_21 ?_
        refine gf_PM_100 C hW.1 d_PM_into_24 ?_
        refine lv_iload_n hx hb d_PM_into_27 rfl (lv_at hl 1 rfl) ?_
        obtain ⟨hin, h⟩ := gd_some h
        refine al_17 C hW.1 hin d_PM_into_28 ?_
        refine lv_bipush (v := 40) hx hb d_PM_into_29 (by decide) ?_
        obtain ⟨r4, g_r4, h⟩ := ob_some h
        by_cases z_r4 : r4 = 0
        · rw [if_pos z_r4] at h
          refine cl_PM_75 (rest := []) C hfl (TE.ofS hTE hb0 hW) (hml.trans hl.1.symm) hW.1 g_r4 z_r4 ⟨Nat.le_of_ble_eq_true rfl, Nat.le_of_ble_eq_true rfl⟩ (Nat.le_of_ble_eq_true rfl) d_PM_into_31 ⟨Nat.zero_le _, Nat.zero_le _⟩ ?_
          refine lv_aload_n hx hb d_PM_into_34 rfl (lv_at hl 0 rfl) ?_
          refine gf_PM_19 C hW.1 d_PM_into_35 ?_
          refine gf_PM_97 C hW.1 d_PM_into_38 ?_
          refine lv_iload_n hx hb d_PM_into_41 rfl (lv_at hl 2 rfl) ?_
          obtain ⟨hin, h⟩ := gd_some h
          refine al_16 C hW.1 hin d_PM_into_42 ?_
          refine lv_if_eq (tgt := 61) hx hb d_PM_into_43 (by decide) (fun c5 => ?_) (fun c5 => ?_)
          · rw [if_pos c5] at h
            refine lv_iconst (v := 1) hx hb d_PM_into_61 (by decide) ?_
            exact tx_leafx (some_fst h) (W.iret hx hb hr (fun t ht _ => qx_i h ht hW) hW.2.2.2 d_PM_into_62)
          · rw [if_neg c5] at h
            refine lv_iload_n hx hb d_PM_into_46 rfl (lv_at hl 2 rfl) ?_
            refine lv_iload_n hx hb d_PM_into_47 rfl (lv_at hl 1 rfl) ?_
            refine lv_icmp_eq (tgt := 61) hx hb d_PM_into_48 (by decide) (fun c6 => ?_) (fun c6 => ?_)
            · rw [if_pos c6] at h
              refine lv_iconst (v := 1) hx hb d_PM_into_61 (by decide) ?_
              exact tx_leafx (some_fst h) (W.iret hx hb hr (fun t ht _ => qx_i h ht hW) hW.2.2.2 d_PM_into_62)
            · rw [if_neg c6] at h
              refine lv_aload_n hx hb d_PM_into_51 rfl (lv_at hl 0 rfl) ?_
              refine lv_iload_n hx hb d_PM_into_52 rfl (lv_at hl 2 rfl) ?_
              refine lv_iload_n hx hb d_PM_into_53 rfl (lv_at hl 1 rfl) ?_
              refine lv_iload_n hx hb d_PM_into_54 rfl (lv_at hl 3 rfl) ?_
              obtain ⟨r7, g_r7, h⟩ := ob_some h
              refine cl_PM_116 (rest := []) C (hml.trans hl.1.symm) hW.1 g_r7 ⟨Nat.le_of_ble_eq_true rfl, Nat.le_of_ble_eq_true rfl⟩ (Nat.le_of_ble_eq_true rfl) d_PM_into_55 ⟨Nat.zero_le _, Nat.zero_le _⟩ ?_
              refine lv_if_eq (tgt := 63) hx hb d_PM_into_58 (by decide) (fun c8 => ?_) (fun c8 => ?_)
              · rw [if_pos c8] at h
                refine lv_aload_n hx hb d_PM_into_63 rfl (lv_at hl 0 rfl) ?_
                refine gf_PM_19 C hW.1 d_PM_into_64 ?_
                refine lv_iload_n hx hb d_PM_into_67 rfl (lv_at hl 1 rfl) ?_
                refine lv_iload_n hx hb d_PM_into_68 rfl (lv_at hl 2 rfl) ?_
                obtain ⟨r9, g_r9, h⟩ := ob_some h
                refine cl_PM_119 (rest := []) C (hml.trans hl.1.symm) hW.1 g_r9 ⟨Nat.le_of_ble_eq_true rfl, Nat.le_of_ble_eq_true rfl⟩ (Nat.le_of_ble_eq_true rfl) d_PM_into_69 ⟨Nat.zero_le _, Nat.zero_le _⟩ ?_
                refine lv_if_ne (tgt := 77) hx hb d_PM_into_72 (by decide) (fun c10 => ?_) (fun c10 => ?_)
                · rw [if_neg c10] at h
                  refine lv_aload_n hx hb d_PM_into_77 rfl (lv_at hl 0 rfl) ?_
                  refine gf_PM_19 C hW.1 d_PM_into_78 ?_
                  refine gf_PM_91 C hW.1 d_PM_into_81 ?_
                  refine lv_iload_n hx hb d_PM_into_84 rfl (lv_at hl 1 rfl) ?_
                  obtain ⟨hin, h⟩ := gd_some h
                  refine al_15 C hW.1 hin d_PM_into_85 ?_
                  refine lv_if_le (tgt := 91) hx hb d_PM_into_86 (by decide) (fun c11 => ?_) (fun c11 => ?_)
                  · rw [if_pos c11] at h
                    refine lv_aload_n hx hb d_PM_into_91 rfl (lv_at hl 0 rfl) ?_
                    refine lv_aload_n hx hb d_PM_into_92 rfl (lv_at hl 0 rfl) ?_
                    refine lv_iload_n hx hb d_PM_into_93 rfl (lv_at hl 1 rfl) ?_
                    refine lv_iload_n hx hb d_PM_into_94 rfl (lv_at hl 3 rfl) ?_
                    obtain ⟨r12, g_r12, h⟩ := ob_some h
                    refine cl_PM_105 (rest := [.ref (ad 0)]) C (hml.trans hl.1.symm) hW.1 g_r12 ⟨Nat.le_of_ble_eq_true rfl, Nat.le_of_ble_eq_true rfl⟩ (Nat.le_of_ble_eq_true rfl) d_PM_into_95 ⟨Nat.zero_le _, Nat.zero_le _⟩ ?_
                    refine lv_aload_n hx hb d_PM_into_98 rfl (lv_at hl 0 rfl) ?_
                    refine lv_iload_n hx hb d_PM_into_99 rfl (lv_at hl 2 rfl) ?_
                    refine lv_iload_n hx hb d_PM_into_100 rfl (lv_at hl 3 rfl) ?_
                    obtain ⟨r13, g_r13, h⟩ := ob_some h
                    refine cl_PM_105 (rest := [.int r12, .ref (ad 0)]) C (hml.trans hl.1.symm) hW.1 g_r13 ⟨Nat.le_of_ble_eq_true rfl, Nat.le_of_ble_eq_true rfl⟩ (Nat.le_of_ble_eq_true rfl) d_PM_into_101 ⟨Nat.zero_le _, Nat.zero_le _⟩ ?_
                    refine lv_iload_n hx hb d_PM_into_104 rfl (lv_at hl 3 rfl) ?_
                    obtain ⟨r14, g_r14, h⟩ := ob_some h
                    refine cl_PM_108 (rest := []) C (hml.trans hl.1.symm) hW.1 g_r14 ⟨Nat.le_of_ble_eq_true rfl, Nat.le_of_ble_eq_true rfl⟩ (Nat.le_of_ble_eq_true rfl) d_PM_into_105 ⟨Nat.zero_le _, Nat.zero_le _⟩ ?_
                    refine lv_if_eq (tgt := 113) hx hb d_PM_into_108 (by decide) (fun c15 => ?_) (fun c15 => ?_)
                    · rw [if_pos c15] at h
                      refine lv_aload_n hx hb d_PM_into_113 rfl (lv_at hl 0 rfl) ?_
                      refine lv_iload_n hx hb d_PM_into_114 rfl (lv_at hl 1 rfl) ?_
                      refine lv_iload_n hx hb d_PM_into_115 rfl (lv_at hl 3 rfl) ?_
                      refine lv_iconst (v := 1) hx hb d_PM_into_116 (by decide) ?_
                      refine lv_iload_n hx hb d_PM_into_117 rfl (lv_at hl 2 rfl) ?_
                      obtain ⟨r16, g_r16, h⟩ := ob_some h
                      refine cl_PM_112 (rest := []) C hD (hml.trans hl.1.symm) hW g_r16 ⟨Nat.le_of_ble_eq_true rfl, Nat.le_of_ble_eq_true rfl⟩ (Nat.le_of_ble_eq_true rfl) d_PM_into_118 ⟨Nat.zero_le _, Nat.zero_le _⟩ (fun H locs hW => ?_)
                      refine lv_if_eq (tgt := 128) hx hb d_PM_into_121 (by decide) (fun c17 => ?_) (fun c17 => ?_)
                      · rw [if_pos c17] at h
                        refine lv_iconst (v := 5) hx hb d_PM_into_128 (by decide) ?_
                        exact tx_leafx (some_fst h) (W.iret hx hb hr (fun t ht _ => qx_i h ht hW) hW.2.2.2 d_PM_into_129)
                      · rw [if_neg c17] at h
                        refine lv_iconst (v := 0) hx hb d_PM_into_124 (by decide) ?_
                        refine lv_goto (tgt := 129) hx hb d_PM_into_125 (by decide) ?_
                        exact tx_leafx (some_fst h) (W.iret hx hb hr (fun t ht _ => qx_i h ht hW) hW.2.2.2 d_PM_into_129)
                    · rw [if_neg c15] at h
                      refine lv_iconst (v := 4) hx hb d_PM_into_111 (by decide) ?_
                      exact tx_leafx (some_fst h) (W.iret hx hb hr (fun t ht _ => qx_i h ht hW) hW.2.2.2 d_PM_into_112)
                  · rw [if_neg c11] at h
                    refine lv_iconst (v := 3) hx hb d_PM_into_89 (by decide) ?_
                    exact tx_leafx (some_fst h) (W.iret hx hb hr (fun t ht _ => qx_i h ht hW) hW.2.2.2 d_PM_into_90)
                · rw [if_pos c10] at h
                  refine lv_iconst (v := 2) hx hb d_PM_into_75 (by decide) ?_
                  exact tx_leafx (some_fst h) (W.iret hx hb hr (fun t ht _ => qx_i h ht hW) hW.2.2.2 d_PM_into_76)
              · rw [if_neg c8] at h
                refine lv_iconst (v := 1) hx hb d_PM_into_61 (by decide) ?_
                exact tx_leafx (some_fst h) (W.iret hx hb hr (fun t ht _ => qx_i h ht hW) hW.2.2.2 d_PM_into_62)
        · rw [if_neg z_r4] at h
          exact tx_lpx (some_fst h) (cl_PM_75_x (rest := []) C hfl (TE.ofS hTE hb0 hW) (hml.trans hl.1.symm) hW.1 g_r4 z_r4 ⟨Nat.le_of_ble_eq_true rfl, Nat.le_of_ble_eq_true rfl⟩ (Nat.le_of_ble_eq_true rfl) d_PM_into_31 (covers_of_empty hne _) hlocks (cE_x (some_fst h)) (fun _ _ t9 => qx_xi h z_r4 hW t9) hW.2.2.2)
      · rw [if_neg z_r3] at h
        exact tx_lpx (some_fst h) (cl_PM_68_x (rest := []) C hfl (TE.ofS hTE hb0 hW) (hml.trans hl.1.symm) hW.1 g_r3 z_r3 ⟨Nat.le_of_ble_eq_true rfl, Nat.le_of_ble_eq_true rfl⟩ (Nat.le_of_ble_eq_true rfl) d_PM_into_17 (covers_of_empty hne _) hlocks (cE_x (some_fst h)) (fun _ _ t9 => qx_xi h z_r3 hW t9) hW.2.2.2)
    · rw [if_neg z_r2] at h
      exact tx_lpx (some_fst h) (cl_PM_88_x (rest := []) C hfl (TE.ofS hTE hb0 hW) (hml.trans hl.1.symm) hW.1 g_r2 z_r2 ⟨Nat.le_of_ble_eq_true rfl, Nat.le_of_ble_eq_true rfl⟩ (Nat.le_of_ble_eq_true rfl) d_PM_into_7 (covers_of_empty hne _) hlocks (cE_x (some_fst h)) (fun _ _ t9 => qx_xi h z_r2 hW t9) hW.2.2.2)
  · rw [if_neg z_r1] at h
    exact tx_lpx (some_fst h) (cl_PM_88_x (rest := []) C hfl (TE.ofS hTE hb0 hW) (hml.trans hl.1.symm) hW.1 g_r1 z_r1 ⟨Nat.le_of_ble_eq_true rfl, Nat.le_of_ble_eq_true rfl⟩ (Nat.le_of_ble_eq_true rfl) d_PM_into_2 (covers_of_empty hne _) hlocks (cE_x (some_fst h)) (fun _ _ t9 => qx_xi h z_r1 hW t9) hW.2.2.2)
abbrev wl_PM_lost : List Cond := .code ⟨"PlaceMoves", "lost", "(II)Z"⟩ prog_1_method_9_code 4 (some FieldType.boolean) :: WG
set_option maxHeartbeats 4000000 in
set_option maxRecDepth 100000 in
theorem c_PM_lost (l : Launch) (hfl : l.flags = pinnedFlags ++ [noTraceFlag]) (b0 : Nat) (G : va_G) (ad : Nat → Nat) (cI cZ : ClassId) (hD : DX ad) (hb0 : ∀ k, k < 32 → b0 ≤ ad k) (σ : Sg) (a1 : Int32) (a2 : Int32) (out : Nat × Int32 × Sg) (h : f_PM_lost σ a1 a2 = some out) : tx_Met l ⟨"PlaceMoves", "lost", "(II)Z"⟩ wl_PM_lost (rmE 8 165 out.1) (PcT b0 G ad cI cZ σ [.ref (ad 0), .int a1, .int a2]) (QXi G ad cI cZ out) (cE out.1) (6 * cE out.1) (AX ad) := by
  refine tx_ofW (cc := prog_1_method_9_code) (maxL := 4) (ret := (some FieldType.boolean)) (by decide) rfl ?_
  intro p e s m args below meth c s₁ B hml hv
  obtain ⟨rfl, hP, hK, hTE⟩ := hv
  have hx := B.exec
  have hb := B.bytes
  have hr := B.returns
  have hts0 := atoms_spec (ws := wl_PM_lost) B.pre
  have hts : ∀ w ∈ WG, w.before _ s = true := fun w hw => hts0 w (List.mem_cons_of_mem _ hw)
  have hne := B.noHandlers (hts0 _ List.mem_cons_self)
  have hown : s.vm.findClass "PlaceMoves" = some m.cls := findClass_of_methodNamed B.named
  have hlocks := B.notSynchronized
  have C : CX "PlaceMoves" prog_1_method_9_code p s m _ c G cI cZ := ⟨hx, hb, hown, hts, hK⟩
  have hl := lv_entry ([.ref (ad 0), .int a1, .int a2]) (n := 4) (Nat.le_of_ble_eq_true rfl)
  rw [lg_entry_eq]
  generalize (lg_sl ([.ref (ad 0), .int a1, .int a2]) ++ List.replicate (4 - (lg_sl ([.ref (ad 0), .int a1, .int a2])).length) Slot.unset).toArray = ls at hl ⊢
  have hl : lv_has ls 4 [(0, .ref (ad 0)), (1, .int a1), (2, .int a2)] := hl
  unfold f_PM_lost at h
  have hW : WS G ad cI cZ s σ s.heap [] := ⟨hP, va_S.rf⟩
  refine lv_aload_n hx hb d_PM_lost_0 rfl (lv_at hl 0 rfl) ?_
  refine lv_iload_n hx hb d_PM_lost_1 rfl (lv_at hl 1 rfl) ?_
  obtain ⟨r1, g_r1, h⟩ := ob_some h
  by_cases z_r1 : r1 = 0
  · rw [if_pos z_r1] at h
    refine cl_PM_88 (rest := []) C hfl (TE.ofS hTE hb0 hW) (hml.trans hl.1.symm) hW.1 g_r1 z_r1 ⟨Nat.le_of_ble_eq_true rfl, Nat.le_of_ble_eq_true rfl⟩ (Nat.le_of_ble_eq_true rfl) d_PM_lost_2 ⟨Nat.zero_le _, Nat.zero_le _⟩ ?_
    refine lv_iload_n hx hb d_PM_lost_5 rfl (lv_at hl 2 rfl) ?_
    refine lv_aload_n hx hb d_PM_lost_6 rfl (lv_at hl 0 rfl) ?_
    refine gf_PM_59 C hW.1 d_PM_lost_7 ?_
    refine lv_ldc (v := 1000000) hx hb hown (hts _ w_343) d_PM_lost_10 ?_
    obtain ⟨r2, g_r2, h⟩ := ob_some h
    by_cases z_r2 : r2 = 0
    · rw [if_pos z_r2] at h
      refine cl_PM_68 (rest := []) C hfl (TE.ofS hTE hb0 hW) (hml.trans hl.1.symm) hW.1 g_r2 z_r2 ⟨Nat.le_of_ble_eq_true rfl, Nat.le_of_ble_eq_true rfl⟩ (Nat.le_of_ble_eq_true rfl) d_PM_lost_12 ⟨Nat.zero_le _, Nat.zero_le _⟩ ?_
      refine lv_aload_n hx hb d_PM_lost_15 rfl (lv_at hl 0 rfl) ?_
      refine gf_PM_26 C hW.1 d_PM_lost_16 ?_
      refine gf_PM_100 C hW.1 d_PM_lost_19 ?_
      refine lv_iload_n hx hb d_PM_lost_22 rfl (lv_at hl 1 rfl) ?_
      obtain ⟨hin, h⟩ := gd_some h
      refine al_17 C hW.1 hin d_PM_lost_23 ?_
      refine lv_bipush (v := 40) hx hb d_PM_lost_24 (by decide) ?_
      obtain ⟨r3, g_r3, h⟩ := ob_some h
      by_cases z_r3 : r3 = 0
      · rw [if_pos z_r3] at h
        refine cl_PM_75 (rest := []) C hfl (TE.ofS hTE hb0 hW) (hml.trans hl.1.symm) hW.1 g_r3 z_r3 ⟨Nat.le_of_ble_eq_true rfl, Nat.le_of_ble_eq_true rfl⟩ (Nat.le_of_ble_eq_true rfl) d_PM_lost_26 ⟨Nat.zero_le _, Nat.zero_le _⟩ ?_
        refine lv_aload_n hx hb d_PM_lost_29 rfl (lv_at hl 0 rfl) ?_
        refine gf_PM_26 C hW.1 d_PM_lost_30 ?_
        refine lv_iload_n hx hb d_PM_lost_33 rfl (lv_at hl 1 rfl) ?_
        refine lv_aload_n hx hb d_PM_lost_34 rfl (lv_at hl 0 rfl) ?_
        refine gf_PM_59 C hW.1 d_PM_lost_35 ?_
        obtain ⟨r4, g_r4, h⟩ := ob_some h
        refine cl_PM_123 (rest := []) C (hml.trans hl.1.symm) hW.1 g_r4 ⟨Nat.le_of_ble_eq_true rfl, Nat.le_of_ble_eq_true rfl⟩ (Nat.le_of_ble_eq_true rfl) d_PM_lost_38 ⟨Nat.zero_le _, Nat.zero_le _⟩ ?_
        refine lv_istore_n (lv' := [(3, .int r4), (0, .ref (ad 0)), (1, .int a1), (2, .int a2)]) hx hb d_PM_lost_41 rfl hl (by decide) rfl (fun ls hl => ?_)
        refine lv_iload_n hx hb d_PM_lost_42 rfl (lv_at hl 0 rfl) ?_
        refine lv_iconst (v := (-1)) hx hb d_PM_lost_43 (by decide) ?_
        refine lv_icmp_eq (tgt := 59) hx hb d_PM_lost_44 (by decide) (fun c5 => ?_) (fun c5 => ?_)
        · rw [if_pos c5] at h
          refine lv_iconst (v := 0) hx hb d_PM_lost_59 (by decide) ?_
          exact tx_leafx (some_fst h) (W.zret hx hb hr rfl (fun t ht _ => qx_i h ht hW) hW.2.2.2 d_PM_lost_60)
        · rw [if_neg c5] at h
          refine lv_aload_n hx hb d_PM_lost_47 rfl (lv_at hl 1 rfl) ?_
          refine gf_PM_26 C hW.1 d_PM_lost_48 ?_
          refine gf_PM_126 C hW.1 d_PM_lost_51 ?_
          refine lv_iload_n hx hb d_PM_lost_54 rfl (lv_at hl 0 rfl) ?_
          obtain ⟨hin, h⟩ := gd_some h
          refine al_19 C hW.1 hin d_PM_lost_55 ?_
          refine lv_if_eq (tgt := 61) hx hb d_PM_lost_56 (by decide) (fun c6 => ?_) (fun c6 => ?_)
          · rw [if_pos c6] at h
            refine lv_aload_n hx hb d_PM_lost_61 rfl (lv_at hl 1 rfl) ?_
            refine lv_iload_n hx hb d_PM_lost_62 rfl (lv_at hl 2 rfl) ?_
            refine lv_iload_n hx hb d_PM_lost_63 rfl (lv_at hl 3 rfl) ?_
            refine lv_iconst (v := 2) hx hb d_PM_lost_64 (by decide) ?_
            refine lv_iconst (v := (-1)) hx hb d_PM_lost_65 (by decide) ?_
            obtain ⟨r7, g_r7, h⟩ := ob_some h
            refine cl_PM_112 (rest := []) C hD (hml.trans hl.1.symm) hW g_r7 ⟨Nat.le_of_ble_eq_true rfl, Nat.le_of_ble_eq_true rfl⟩ (Nat.le_of_ble_eq_true rfl) d_PM_lost_66 ⟨Nat.zero_le _, Nat.zero_le _⟩ (fun H locs hW => ?_)
            obtain ⟨hin, h⟩ := gd_some h
            exact tx_leafx (some_fst h) (W.zret hx hb hr (isB_nar hin) (fun t ht _ => qx_i h ht hW) hW.2.2.2 d_PM_lost_69)
          · rw [if_neg c6] at h
            refine lv_iconst (v := 0) hx hb d_PM_lost_59 (by decide) ?_
            exact tx_leafx (some_fst h) (W.zret hx hb hr rfl (fun t ht _ => qx_i h ht hW) hW.2.2.2 d_PM_lost_60)
      · rw [if_neg z_r3] at h
        exact tx_lpx (some_fst h) (cl_PM_75_x (rest := []) C hfl (TE.ofS hTE hb0 hW) (hml.trans hl.1.symm) hW.1 g_r3 z_r3 ⟨Nat.le_of_ble_eq_true rfl, Nat.le_of_ble_eq_true rfl⟩ (Nat.le_of_ble_eq_true rfl) d_PM_lost_26 (covers_of_empty hne _) hlocks (cE_x (some_fst h)) (fun _ _ t9 => qx_xi h z_r3 hW t9) hW.2.2.2)
    · rw [if_neg z_r2] at h
      exact tx_lpx (some_fst h) (cl_PM_68_x (rest := []) C hfl (TE.ofS hTE hb0 hW) (hml.trans hl.1.symm) hW.1 g_r2 z_r2 ⟨Nat.le_of_ble_eq_true rfl, Nat.le_of_ble_eq_true rfl⟩ (Nat.le_of_ble_eq_true rfl) d_PM_lost_12 (covers_of_empty hne _) hlocks (cE_x (some_fst h)) (fun _ _ t9 => qx_xi h z_r2 hW t9) hW.2.2.2)
  · rw [if_neg z_r1] at h
    exact tx_lpx (some_fst h) (cl_PM_88_x (rest := []) C hfl (TE.ofS hTE hb0 hW) (hml.trans hl.1.symm) hW.1 g_r1 z_r1 ⟨Nat.le_of_ble_eq_true rfl, Nat.le_of_ble_eq_true rfl⟩ (Nat.le_of_ble_eq_true rfl) d_PM_lost_2 (covers_of_empty hne _) hlocks (cE_x (some_fst h)) (fun _ _ t9 => qx_xi h z_r1 hW t9) hW.2.2.2)
abbrev wl_PM_door : List Cond := .code ⟨"PlaceMoves", "door", "(IIII)I"⟩ prog_1_method_13_code 5 (some FieldType.int) :: WG
set_option maxHeartbeats 4000000 in
set_option maxRecDepth 100000 in
theorem c_PM_door (l : Launch) (hfl : l.flags = pinnedFlags ++ [noTraceFlag]) (b0 : Nat) (G : va_G) (ad : Nat → Nat) (cI cZ : ClassId) (hD : DX ad) (hb0 : ∀ k, k < 32 → b0 ≤ ad k) (σ : Sg) (a1 : Int32) (a2 : Int32) (a3 : Int32) (a4 : Int32) (out : Nat × Int32 × Sg) (h : f_PM_door σ a1 a2 a3 a4 = some out) : tx_Met l ⟨"PlaceMoves", "door", "(IIII)I"⟩ wl_PM_door (rmE 8 132 out.1) (PcT b0 G ad cI cZ σ [.ref (ad 0), .int a1, .int a2, .int a3, .int a4]) (QXi G ad cI cZ out) (cE out.1) (6 * cE out.1) (AX ad) := by
  refine tx_ofW (cc := prog_1_method_13_code) (maxL := 5) (ret := (some FieldType.int)) (by decide) rfl ?_
  intro p e s m args below meth c s₁ B hml hv
  obtain ⟨rfl, hP, hK, hTE⟩ := hv
  have hx := B.exec
  have hb := B.bytes
  have hr := B.returns
  have hts0 := atoms_spec (ws := wl_PM_door) B.pre
  have hts : ∀ w ∈ WG, w.before _ s = true := fun w hw => hts0 w (List.mem_cons_of_mem _ hw)
  have hne := B.noHandlers (hts0 _ List.mem_cons_self)
  have hown : s.vm.findClass "PlaceMoves" = some m.cls := findClass_of_methodNamed B.named
  have hlocks := B.notSynchronized
  have C : CX "PlaceMoves" prog_1_method_13_code p s m _ c G cI cZ := ⟨hx, hb, hown, hts, hK⟩
  have hl := lv_entry ([.ref (ad 0), .int a1, .int a2, .int a3, .int a4]) (n := 5) (Nat.le_of_ble_eq_true rfl)
  rw [lg_entry_eq]
  generalize (lg_sl ([.ref (ad 0), .int a1, .int a2, .int a3, .int a4]) ++ List.replicate (5 - (lg_sl ([.ref (ad 0), .int a1, .int a2, .int a3, .int a4])).length) Slot.unset).toArray = ls at hl ⊢
  have hl : lv_has ls 5 [(0, .ref (ad 0)), (1, .int a1), (2, .int a2), (3, .int a3), (4, .int a4)] := hl
  unfold f_PM_door at h
  have hW : WS G ad cI cZ s σ s.heap [] := ⟨hP, va_S.rf⟩
  refine lv_aload_n hx hb d_PM_door_0 rfl (lv_at hl 0 rfl) ?_
  refine lv_iload_n hx hb d_PM_door_1 rfl (lv_at hl 1 rfl) ?_
  obtain ⟨r1, g_r1, h⟩ := ob_some h
  by_cases z_r1 : r1 = 0
  · rw [if_pos z_r1] at h
    refine cl_PM_63 (rest := []) C hfl (TE.ofS hTE hb0 hW) (hml.trans hl.1.symm) hW.1 g_r1 z_r1 ⟨Nat.le_of_ble_eq_true rfl, Nat.le_of_ble_eq_true rfl⟩ (Nat.le_of_ble_eq_true rfl) d_PM_door_2 ⟨Nat.zero_le _, Nat.zero_le _⟩ ?_
    refine lv_aload_n hx hb d_PM_door_5 rfl (lv_at hl 0 rfl) ?_
    refine lv_iload_n hx hb d_PM_door_6 rfl (lv_at hl 2 rfl) ?_
    obtain ⟨r2, g_r2, h⟩ := ob_some h
    by_cases z_r2 : r2 = 0
    · rw [if_pos z_r2] at h
      refine cl_PM_63 (rest := []) C hfl (TE.ofS hTE hb0 hW) (hml.trans hl.1.symm) hW.1 g_r2 z_r2 ⟨Nat.le_of_ble_eq_true rfl, Nat.le_of_ble_eq_true rfl⟩ (Nat.le_of_ble_eq_true rfl) d_PM_door_7 ⟨Nat.zero_le _, Nat.zero_le _⟩ ?_
      refine lv_iload_n hx hb d_PM_door_10 rfl (lv_at hl 1 rfl) ?_
      refine lv_iload_n hx hb d_PM_door_11 rfl (lv_at hl 2 rfl) ?_
      refine lv_icmp_ne (tgt := 25) hx hb d_PM_door_12 (by decide) (fun c3 => ?_) (fun c3 => ?_)
      · rw [if_neg c3] at h
        refine lv_iload_n hx hb d_PM_door_25 rfl (lv_at hl 3 rfl) ?_
        refine lv_iconst (v := 1) hx hb d_PM_door_26 (by decide) ?_
        refine lv_sipush (v := 10000) hx hb d_PM_door_27 (by decide) ?_
        obtain ⟨r4, g_r4, h⟩ := ob_some h
        by_cases z_r4 : r4 = 0
        · rw [if_pos z_r4] at h
          refine cl_PM_68 (rest := []) C hfl (TE.ofS hTE hb0 hW) (hml.trans hl.1.symm) hW.1 g_r4 z_r4 ⟨Nat.le_of_ble_eq_true rfl, Nat.le_of_ble_eq_true rfl⟩ (Nat.le_of_ble_eq_true rfl) d_PM_door_30 ⟨Nat.zero_le _, Nat.zero_le _⟩ ?_
          refine lv_iload hx hb d_PM_door_33 (lv_at hl 4 rfl) ?_
          refine lv_iconst (v := 1) hx hb d_PM_door_35 (by decide) ?_
          refine lv_sipush (v := 10000) hx hb d_PM_door_36 (by decide) ?_
          obtain ⟨r5, g_r5, h⟩ := ob_some h
          by_cases z_r5 : r5 = 0
          · rw [if_pos z_r5] at h
            refine cl_PM_68 (rest := []) C hfl (TE.ofS hTE hb0 hW) (hml.trans hl.1.symm) hW.1 g_r5 z_r5 ⟨Nat.le_of_ble_eq_true rfl, Nat.le_of_ble_eq_true rfl⟩ (Nat.le_of_ble_eq_true rfl) d_PM_door_39 ⟨Nat.zero_le _, Nat.zero_le _⟩ ?_
            refine lv_aload_n hx hb d_PM_door_42 rfl (lv_at hl 0 rfl) ?_
            refine gf_PM_33 C hW.1 d_PM_door_43 ?_
            refine gf_PM_151 C hW.1 d_PM_door_46 ?_
            refine lv_bipush (v := 40) hx hb d_PM_door_49 (by decide) ?_
            obtain ⟨r6, g_r6, h⟩ := ob_some h
            by_cases z_r6 : r6 = 0
            · rw [if_pos z_r6] at h
              refine cl_PM_75 (rest := []) C hfl (TE.ofS hTE hb0 hW) (hml.trans hl.1.symm) hW.1 g_r6 z_r6 ⟨Nat.le_of_ble_eq_true rfl, Nat.le_of_ble_eq_true rfl⟩ (Nat.le_of_ble_eq_true rfl) d_PM_door_51 ⟨Nat.zero_le _, Nat.zero_le _⟩ ?_
              refine lv_aload_n hx hb d_PM_door_54 rfl (lv_at hl 0 rfl) ?_
              refine gf_PM_33 C hW.1 d_PM_door_55 ?_
              refine lv_iload_n hx hb d_PM_door_58 rfl (lv_at hl 1 rfl) ?_
              refine lv_iload_n hx hb d_PM_door_59 rfl (lv_at hl 2 rfl) ?_
              refine lv_iload_n hx hb d_PM_door_60 rfl (lv_at hl 3 rfl) ?_
              refine lv_iload hx hb d_PM_door_61 (lv_at hl 4 rfl) ?_
              obtain ⟨r7, g_r7, h⟩ := ob_some h
              refine cl_PM_152 (rest := []) C hD (hml.trans hl.1.symm) hW g_r7 ⟨Nat.le_of_ble_eq_true rfl, Nat.le_of_ble_eq_true rfl⟩ (Nat.le_of_ble_eq_true rfl) d_PM_door_63 ⟨Nat.zero_le _, Nat.zero_le _⟩ (fun H locs hW => ?_)
              exact tx_leafx (some_fst h) (W.iret hx hb hr (fun t ht _ => qx_i h ht hW) hW.2.2.2 d_PM_door_66)
            · rw [if_neg z_r6] at h
              exact tx_lpx (some_fst h) (cl_PM_75_x (rest := []) C hfl (TE.ofS hTE hb0 hW) (hml.trans hl.1.symm) hW.1 g_r6 z_r6 ⟨Nat.le_of_ble_eq_true rfl, Nat.le_of_ble_eq_true rfl⟩ (Nat.le_of_ble_eq_true rfl) d_PM_door_51 (covers_of_empty hne _) hlocks (cE_x (some_fst h)) (fun _ _ t9 => qx_xi h z_r6 hW t9) hW.2.2.2)
          · rw [if_neg z_r5] at h
            exact tx_lpx (some_fst h) (cl_PM_68_x (rest := []) C hfl (TE.ofS hTE hb0 hW) (hml.trans hl.1.symm) hW.1 g_r5 z_r5 ⟨Nat.le_of_ble_eq_true rfl, Nat.le_of_ble_eq_true rfl⟩ (Nat.le_of_ble_eq_true rfl) d_PM_door_39 (covers_of_empty hne _) hlocks (cE_x (some_fst h)) (fun _ _ t9 => qx_xi h z_r5 hW t9) hW.2.2.2)
        · rw [if_neg z_r4] at h
          exact tx_lpx (some_fst h) (cl_PM_68_x (rest := []) C hfl (TE.ofS hTE hb0 hW) (hml.trans hl.1.symm) hW.1 g_r4 z_r4 ⟨Nat.le_of_ble_eq_true rfl, Nat.le_of_ble_eq_true rfl⟩ (Nat.le_of_ble_eq_true rfl) d_PM_door_30 (covers_of_empty hne _) hlocks (cE_x (some_fst h)) (fun _ _ t9 => qx_xi h z_r4 hW t9) hW.2.2.2)
      · rw [if_pos c3] at h
        exact tx_lnx (some_fst h) (by decide) (nw_PM_144_146 C hfl hTE (hml.trans hl.1.symm) d_PM_door_15 d_PM_door_18 d_PM_door_19 d_PM_door_21 d_PM_door_24 (covers_of_empty hne _) hlocks (cE_x1 (some_fst h) (by decide)) ⟨Nat.le_of_ble_eq_true rfl, Nat.le_of_ble_eq_true rfl⟩ (Nat.le_of_ble_eq_true rfl) (fun t t9 => qx_xi h (by decide) hW t9))
    · rw [if_neg z_r2] at h
      exact tx_lpx (some_fst h) (cl_PM_63_x (rest := []) C hfl (TE.ofS hTE hb0 hW) (hml.trans hl.1.symm) hW.1 g_r2 z_r2 ⟨Nat.le_of_ble_eq_true rfl, Nat.le_of_ble_eq_true rfl⟩ (Nat.le_of_ble_eq_true rfl) d_PM_door_7 (covers_of_empty hne _) hlocks (cE_x (some_fst h)) (fun _ _ t9 => qx_xi h z_r2 hW t9) hW.2.2.2)
  · rw [if_neg z_r1] at h
    exact tx_lpx (some_fst h) (cl_PM_63_x (rest := []) C hfl (TE.ofS hTE hb0 hW) (hml.trans hl.1.symm) hW.1 g_r1 z_r1 ⟨Nat.le_of_ble_eq_true rfl, Nat.le_of_ble_eq_true rfl⟩ (Nat.le_of_ble_eq_true rfl) d_PM_door_2 (covers_of_empty hne _) hlocks (cE_x (some_fst h)) (fun _ _ t9 => qx_xi h z_r1 hW t9) hW.2.2.2)
abbrev wl_PM_planned : List Cond := .code ⟨"PlaceMoves", "planned", "(IIII)I"⟩ prog_1_method_16_code 5 (some FieldType.int) :: WG
set_option maxHeartbeats 4000000 in
set_option maxRecDepth 100000 in
theorem c_PM_planned (l : Launch) (hfl : l.flags = pinnedFlags ++ [noTraceFlag]) (b0 : Nat) (G : va_G) (ad : Nat → Nat) (cI cZ : ClassId) (hD : DX ad) (hb0 : ∀ k, k < 32 → b0 ≤ ad k) (σ : Sg) (a1 : Int32) (a2 : Int32) (a3 : Int32) (a4 : Int32) (out : Nat × Int32 × Sg) (h : f_PM_planned σ a1 a2 a3 a4 = some out) : tx_Met l ⟨"PlaceMoves", "planned", "(IIII)I"⟩ wl_PM_planned (rmE 8 140 out.1) (PcT b0 G ad cI cZ σ [.ref (ad 0), .int a1, .int a2, .int a3, .int a4]) (QXi G ad cI cZ out) (cE out.1) (6 * cE out.1) (AX ad) := by
  refine tx_ofW (cc := prog_1_method_16_code) (maxL := 5) (ret := (some FieldType.int)) (by decide) rfl ?_
  intro p e s m args below meth c s₁ B hml hv
  obtain ⟨rfl, hP, hK, hTE⟩ := hv
  have hx := B.exec
  have hb := B.bytes
  have hr := B.returns
  have hts0 := atoms_spec (ws := wl_PM_planned) B.pre
  have hts : ∀ w ∈ WG, w.before _ s = true := fun w hw => hts0 w (List.mem_cons_of_mem _ hw)
  have hne := B.noHandlers (hts0 _ List.mem_cons_self)
  have hown : s.vm.findClass "PlaceMoves" = some m.cls := findClass_of_methodNamed B.named
  have hlocks := B.notSynchronized
  have C : CX "PlaceMoves" prog_1_method_16_code p s m _ c G cI cZ := ⟨hx, hb, hown, hts, hK⟩
  have hl := lv_entry ([.ref (ad 0), .int a1, .int a2, .int a3, .int a4]) (n := 5) (Nat.le_of_ble_eq_true rfl)
  rw [lg_entry_eq]
  generalize (lg_sl ([.ref (ad 0), .int a1, .int a2, .int a3, .int a4]) ++ List.replicate (5 - (lg_sl ([.ref (ad 0), .int a1, .int a2, .int a3, .int a4])).length) Slot.unset).toArray = ls at hl ⊢
  have hl : lv_has ls 5 [(0, .ref (ad 0)), (1, .int a1), (2, .int a2), (3, .int a3), (4, .int a4)] := hl
  unfold f_PM_planned at h
  have hW : WS G ad cI cZ s σ s.heap [] := ⟨hP, va_S.rf⟩
  refine lv_aload_n hx hb d_PM_planned_0 rfl (lv_at hl 0 rfl) ?_
  refine lv_iload_n hx hb d_PM_planned_1 rfl (lv_at hl 1 rfl) ?_
  obtain ⟨r1, g_r1, h⟩ := ob_some h
  by_cases z_r1 : r1 = 0
  · rw [if_pos z_r1] at h
    refine cl_PM_88 (rest := []) C hfl (TE.ofS hTE hb0 hW) (hml.trans hl.1.symm) hW.1 g_r1 z_r1 ⟨Nat.le_of_ble_eq_true rfl, Nat.le_of_ble_eq_true rfl⟩ (Nat.le_of_ble_eq_true rfl) d_PM_planned_2 ⟨Nat.zero_le _, Nat.zero_le _⟩ ?_
    refine lv_aload_n hx hb d_PM_planned_5 rfl (lv_at hl 0 rfl) ?_
    refine lv_iload_n hx hb d_PM_planned_6 rfl (lv_at hl 2 rfl) ?_
    obtain ⟨r2, g_r2, h⟩ := ob_some h
    by_cases z_r2 : r2 = 0
    · rw [if_pos z_r2] at h
      refine cl_PM_63 (rest := []) C hfl (TE.ofS hTE hb0 hW) (hml.trans hl.1.symm) hW.1 g_r2 z_r2 ⟨Nat.le_of_ble_eq_true rfl, Nat.le_of_ble_eq_true rfl⟩ (Nat.le_of_ble_eq_true rfl) d_PM_planned_7 ⟨Nat.zero_le _, Nat.zero_le _⟩ ?_
      refine lv_iload_n hx hb d_PM_planned_10 rfl (lv_at hl 3 rfl) ?_
      refine lv_aload_n hx hb d_PM_planned_11 rfl (lv_at hl 0 rfl) ?_
      refine gf_PM_59 C hW.1 d_PM_planned_12 ?_
      refine lv_ldc (v := 1000000) hx hb hown (hts _ w_343) d_PM_planned_15 ?_
      obtain ⟨r3, g_r3, h⟩ := ob_some h
      by_cases z_r3 : r3 = 0
      · rw [if_pos z_r3] at h
        refine cl_PM_68 (rest := []) C hfl (TE.ofS hTE hb0 hW) (hml.trans hl.1.symm) hW.1 g_r3 z_r3 ⟨Nat.le_of_ble_eq_true rfl, Nat.le_of_ble_eq_true rfl⟩ (Nat.le_of_ble_eq_true rfl) d_PM_planned_17 ⟨Nat.zero_le _, Nat.zero_le _⟩ ?_
        refine lv_iload hx hb d_PM_planned_20 (lv_at hl 4 rfl) ?_
        refine lv_iload_n hx hb d_PM_planned_22 rfl (lv_at hl 3 rfl) ?_
        refine lv_ldc (v := 1000000) hx hb hown (hts _ w_343) d_PM_planned_23 ?_
        obtain ⟨r4, g_r4, h⟩ := ob_some h
        by_cases z_r4 : r4 = 0
        · rw [if_pos z_r4] at h
          refine cl_PM_68 (rest := []) C hfl (TE.ofS hTE hb0 hW) (hml.trans hl.1.symm) hW.1 g_r4 z_r4 ⟨Nat.le_of_ble_eq_true rfl, Nat.le_of_ble_eq_true rfl⟩ (Nat.le_of_ble_eq_true rfl) d_PM_planned_25 ⟨Nat.zero_le _, Nat.zero_le _⟩ ?_
          refine lv_aload_n hx hb d_PM_planned_28 rfl (lv_at hl 0 rfl) ?_
          refine gf_PM_40 C hW.1 d_PM_planned_29 ?_
          refine gf_PM_164 C hW.1 d_PM_planned_32 ?_
          refine lv_bipush (v := 30) hx hb d_PM_planned_35 (by decide) ?_
          obtain ⟨r5, g_r5, h⟩ := ob_some h
          by_cases z_r5 : r5 = 0
          · rw [if_pos z_r5] at h
            refine cl_PM_75 (rest := []) C hfl (TE.ofS hTE hb0 hW) (hml.trans hl.1.symm) hW.1 g_r5 z_r5 ⟨Nat.le_of_ble_eq_true rfl, Nat.le_of_ble_eq_true rfl⟩ (Nat.le_of_ble_eq_true rfl) d_PM_planned_37 ⟨Nat.zero_le _, Nat.zero_le _⟩ ?_
            refine lv_aload_n hx hb d_PM_planned_40 rfl (lv_at hl 0 rfl) ?_
            refine gf_PM_40 C hW.1 d_PM_planned_41 ?_
            refine lv_iload_n hx hb d_PM_planned_44 rfl (lv_at hl 1 rfl) ?_
            refine lv_iload_n hx hb d_PM_planned_45 rfl (lv_at hl 2 rfl) ?_
            refine lv_iload_n hx hb d_PM_planned_46 rfl (lv_at hl 3 rfl) ?_
            refine lv_iload hx hb d_PM_planned_47 (lv_at hl 4 rfl) ?_
            obtain ⟨r6, g_r6, h⟩ := ob_some h
            refine cl_PM_165 (rest := []) C hD (hml.trans hl.1.symm) hW g_r6 ⟨Nat.le_of_ble_eq_true rfl, Nat.le_of_ble_eq_true rfl⟩ (Nat.le_of_ble_eq_true rfl) d_PM_planned_49 ⟨Nat.zero_le _, Nat.zero_le _⟩ (fun H locs hW => ?_)
            refine lv_aload_n hx hb d_PM_planned_52 rfl (lv_at hl 0 rfl) ?_
            refine lv_iload_n hx hb d_PM_planned_53 rfl (lv_at hl 2 rfl) ?_
            refine lv_iload_n hx hb d_PM_planned_54 rfl (lv_at hl 3 rfl) ?_
            refine lv_iload hx hb d_PM_planned_55 (lv_at hl 4 rfl) ?_
            obtain ⟨r7, g_r7, h⟩ := ob_some h
            refine cl_PM_168 (rest := []) C hD (hml.trans hl.1.symm) hW g_r7 ⟨Nat.le_of_ble_eq_true rfl, Nat.le_of_ble_eq_true rfl⟩ (Nat.le_of_ble_eq_true rfl) d_PM_planned_57 ⟨Nat.zero_le _, Nat.zero_le _⟩ (fun H locs hW => ?_)
            refine lv_if_eq (tgt := 65) hx hb d_PM_planned_60 (by decide) (fun c8 => ?_) (fun c8 => ?_)
            · rw [if_pos c8] at h
              refine lv_aload_n hx hb d_PM_planned_65 rfl (lv_at hl 0 rfl) ?_
              refine gf_PM_40 C hW.1 d_PM_planned_66 ?_
              obtain ⟨r9, g_r9, h⟩ := ob_some h
              refine cl_PM_171 (rest := []) C hD (hml.trans hl.1.symm) hW g_r9 ⟨Nat.le_of_ble_eq_true rfl, Nat.le_of_ble_eq_true rfl⟩ (Nat.le_of_ble_eq_true rfl) d_PM_planned_69 ⟨Nat.zero_le _, Nat.zero_le _⟩ (fun H locs hW => ?_)
              refine lv_iconst (v := 1) hx hb d_PM_planned_72 (by decide) ?_
              exact tx_leafx (some_fst h) (W.iret hx hb hr (fun t ht _ => qx_i h ht hW) hW.2.2.2 d_PM_planned_73)
            · rw [if_neg c8] at h
              refine lv_iconst (v := 0) hx hb d_PM_planned_63 (by decide) ?_
              exact tx_leafx (some_fst h) (W.iret hx hb hr (fun t ht _ => qx_i h ht hW) hW.2.2.2 d_PM_planned_64)
          · rw [if_neg z_r5] at h
            exact tx_lpx (some_fst h) (cl_PM_75_x (rest := []) C hfl (TE.ofS hTE hb0 hW) (hml.trans hl.1.symm) hW.1 g_r5 z_r5 ⟨Nat.le_of_ble_eq_true rfl, Nat.le_of_ble_eq_true rfl⟩ (Nat.le_of_ble_eq_true rfl) d_PM_planned_37 (covers_of_empty hne _) hlocks (cE_x (some_fst h)) (fun _ _ t9 => qx_xi h z_r5 hW t9) hW.2.2.2)
        · rw [if_neg z_r4] at h
          exact tx_lpx (some_fst h) (cl_PM_68_x (rest := []) C hfl (TE.ofS hTE hb0 hW) (hml.trans hl.1.symm) hW.1 g_r4 z_r4 ⟨Nat.le_of_ble_eq_true rfl, Nat.le_of_ble_eq_true rfl⟩ (Nat.le_of_ble_eq_true rfl) d_PM_planned_25 (covers_of_empty hne _) hlocks (cE_x (some_fst h)) (fun _ _ t9 => qx_xi h z_r4 hW t9) hW.2.2.2)
      · rw [if_neg z_r3] at h
        exact tx_lpx (some_fst h) (cl_PM_68_x (rest := []) C hfl (TE.ofS hTE hb0 hW) (hml.trans hl.1.symm) hW.1 g_r3 z_r3 ⟨Nat.le_of_ble_eq_true rfl, Nat.le_of_ble_eq_true rfl⟩ (Nat.le_of_ble_eq_true rfl) d_PM_planned_17 (covers_of_empty hne _) hlocks (cE_x (some_fst h)) (fun _ _ t9 => qx_xi h z_r3 hW t9) hW.2.2.2)
    · rw [if_neg z_r2] at h
      exact tx_lpx (some_fst h) (cl_PM_63_x (rest := []) C hfl (TE.ofS hTE hb0 hW) (hml.trans hl.1.symm) hW.1 g_r2 z_r2 ⟨Nat.le_of_ble_eq_true rfl, Nat.le_of_ble_eq_true rfl⟩ (Nat.le_of_ble_eq_true rfl) d_PM_planned_7 (covers_of_empty hne _) hlocks (cE_x (some_fst h)) (fun _ _ t9 => qx_xi h z_r2 hW t9) hW.2.2.2)
  · rw [if_neg z_r1] at h
    exact tx_lpx (some_fst h) (cl_PM_88_x (rest := []) C hfl (TE.ofS hTE hb0 hW) (hml.trans hl.1.symm) hW.1 g_r1 z_r1 ⟨Nat.le_of_ble_eq_true rfl, Nat.le_of_ble_eq_true rfl⟩ (Nat.le_of_ble_eq_true rfl) d_PM_planned_2 (covers_of_empty hne _) hlocks (cE_x (some_fst h)) (fun _ _ t9 => qx_xi h z_r1 hW t9) hW.2.2.2)
abbrev wl_PM_used : List Cond := .code ⟨"PlaceMoves", "used", "(II)I"⟩ prog_1_method_17_code 3 (some FieldType.int) :: WG
set_option maxHeartbeats 4000000 in
set_option maxRecDepth 100000 in
theorem c_PM_used (l : Launch) (hfl : l.flags = pinnedFlags ++ [noTraceFlag]) (b0 : Nat) (G : va_G) (ad : Nat → Nat) (cI cZ : ClassId) (hD : DX ad) (hb0 : ∀ k, k < 32 → b0 ≤ ad k) (σ : Sg) (a1 : Int32) (a2 : Int32) (out : Nat × Int32 × Sg) (h : f_PM_used σ a1 a2 = some out) : tx_Met l ⟨"PlaceMoves", "used", "(II)I"⟩ wl_PM_used (rmE 8 132 out.1) (PcT b0 G ad cI cZ σ [.ref (ad 0), .int a1, .int a2]) (QXi G ad cI cZ out) (cE out.1) (6 * cE out.1) (AX ad) := by
  refine tx_ofW (cc := prog_1_method_17_code) (maxL := 3) (ret := (some FieldType.int)) (by decide) rfl ?_
  intro p e s m args below meth c s₁ B hml hv
  obtain ⟨rfl, hP, hK, hTE⟩ := hv
  have hx := B.exec
  have hb := B.bytes
  have hr := B.returns
  have hts0 := atoms_spec (ws := wl_PM_used) B.pre
  have hts : ∀ w ∈ WG, w.before _ s = true := fun w hw => hts0 w (List.mem_cons_of_mem _ hw)
  have hne := B.noHandlers (hts0 _ List.mem_cons_self)
  have hown : s.vm.findClass "PlaceMoves" = some m.cls := findClass_of_methodNamed B.named
  have hlocks := B.notSynchronized
  have C : CX "PlaceMoves" prog_1_method_17_code p s m _ c G cI cZ := ⟨hx, hb, hown, hts, hK⟩
  have hl := lv_entry ([.ref (ad 0), .int a1, .int a2]) (n := 3) (Nat.le_of_ble_eq_true rfl)
  rw [lg_entry_eq]
  generalize (lg_sl ([.ref (ad 0), .int a1, .int a2]) ++ List.replicate (3 - (lg_sl ([.ref (ad 0), .int a1, .int a2])).length) Slot.unset).toArray = ls at hl ⊢
  have hl : lv_has ls 3 [(0, .ref (ad 0)), (1, .int a1), (2, .int a2)] := hl
  unfold f_PM_used at h
  have hW : WS G ad cI cZ s σ s.heap [] := ⟨hP, va_S.rf⟩
  refine lv_aload_n hx hb d_PM_used_0 rfl (lv_at hl 0 rfl) ?_
  refine lv_iload_n hx hb d_PM_used_1 rfl (lv_at hl 1 rfl) ?_
  obtain ⟨r1, g_r1, h⟩ := ob_some h
  by_cases z_r1 : r1 = 0
  · rw [if_pos z_r1] at h
    refine cl_PM_63 (rest := []) C hfl (TE.ofS hTE hb0 hW) (hml.trans hl.1.symm) hW.1 g_r1 z_r1 ⟨Nat.le_of_ble_eq_true rfl, Nat.le_of_ble_eq_true rfl⟩ (Nat.le_of_ble_eq_true rfl) d_PM_used_2 ⟨Nat.zero_le _, Nat.zero_le _⟩ ?_
    refine lv_aload_n hx hb d_PM_used_5 rfl (lv_at hl 0 rfl) ?_
    refine lv_iload_n hx hb d_PM_used_6 rfl (lv_at hl 2 rfl) ?_
    obtain ⟨r2, g_r2, h⟩ := ob_some h
    refine cl_PM_174 (rest := []) C hD (hml.trans hl.1.symm) hW g_r2 ⟨Nat.le_of_ble_eq_true rfl, Nat.le_of_ble_eq_true rfl⟩ (Nat.le_of_ble_eq_true rfl) d_PM_used_7 ⟨Nat.zero_le _, Nat.zero_le _⟩ (fun H locs hW => ?_)
    refine lv_aload_n hx hb d_PM_used_10 rfl (lv_at hl 0 rfl) ?_
    refine lv_iload_n hx hb d_PM_used_11 rfl (lv_at hl 1 rfl) ?_
    obtain ⟨r3, g_r3, h⟩ := ob_some h
    refine cl_PM_177 (rest := []) C (hml.trans hl.1.symm) hW.1 g_r3 ⟨Nat.le_of_ble_eq_true rfl, Nat.le_of_ble_eq_true rfl⟩ (Nat.le_of_ble_eq_true rfl) d_PM_used_12 ⟨Nat.zero_le _, Nat.zero_le _⟩ ?_
    exact tx_leafx (some_fst h) (W.iret hx hb hr (fun t ht _ => qx_i h ht hW) hW.2.2.2 d_PM_used_15)
  · rw [if_neg z_r1] at h
    exact tx_lpx (some_fst h) (cl_PM_63_x (rest := []) C hfl (TE.ofS hTE hb0 hW) (hml.trans hl.1.symm) hW.1 g_r1 z_r1 ⟨Nat.le_of_ble_eq_true rfl, Nat.le_of_ble_eq_true rfl⟩ (Nat.le_of_ble_eq_true rfl) d_PM_used_2 (covers_of_empty hne _) hlocks (cE_x (some_fst h)) (fun _ _ t9 => qx_xi h z_r1 hW t9) hW.2.2.2)
abbrev wl_PM_quiet : List Cond := .code ⟨"PlaceMoves", "quiet", "(III)V"⟩ prog_1_method_18_code 4 none :: WG
set_option maxHeartbeats 4000000 in
set_option maxRecDepth 100000 in
theorem c_PM_quiet (l : Launch) (hfl : l.flags = pinnedFlags ++ [noTraceFlag]) (b0 : Nat) (G : va_G) (ad : Nat → Nat) (cI cZ : ClassId) (hD : DX ad) (hb0 : ∀ k, k < 32 → b0 ≤ ad k) (σ : Sg) (a1 : Int32) (a2 : Int32) (a3 : Int32) (out : Nat × Sg) (h : f_PM_quiet σ a1 a2 a3 = some out) : tx_Met l ⟨"PlaceMoves", "quiet", "(III)V"⟩ wl_PM_quiet (rmE 8 132 out.1) (PcT b0 G ad cI cZ σ [.ref (ad 0), .int a1, .int a2, .int a3]) (QXv G ad cI cZ out) (cE out.1) (6 * cE out.1) (AX ad) := by
  refine tx_ofW (cc := prog_1_method_18_code) (maxL := 4) (ret := none) (by decide) rfl ?_
  intro p e s m args below meth c s₁ B hml hv
  obtain ⟨rfl, hP, hK, hTE⟩ := hv
  have hx := B.exec
  have hb := B.bytes
  have hr := B.returns
  have hts0 := atoms_spec (ws := wl_PM_quiet) B.pre
  have hts : ∀ w ∈ WG, w.before _ s = true := fun w hw => hts0 w (List.mem_cons_of_mem _ hw)
  have hne := B.noHandlers (hts0 _ List.mem_cons_self)
  have hown : s.vm.findClass "PlaceMoves" = some m.cls := findClass_of_methodNamed B.named
  have hlocks := B.notSynchronized
  have C : CX "PlaceMoves" prog_1_method_18_code p s m _ c G cI cZ := ⟨hx, hb, hown, hts, hK⟩
  have hl := lv_entry ([.ref (ad 0), .int a1, .int a2, .int a3]) (n := 4) (Nat.le_of_ble_eq_true rfl)
  rw [lg_entry_eq]
  generalize (lg_sl ([.ref (ad 0), .int a1, .int a2, .int a3]) ++ List.replicate (4 - (lg_sl ([.ref (ad 0), .int a1, .int a2, .int a3])).length) Slot.unset).toArray = ls at hl ⊢
  have hl : lv_has ls 4 [(0, .ref (ad 0)), (1, .int a1), (2, .int a2), (3, .int a3)] := hl
  unfold f_PM_quiet at h
  have hW : WS G ad cI cZ s σ s.heap [] := ⟨hP, va_S.rf⟩
  refine lv_aload_n hx hb d_PM_quiet_0 rfl (lv_at hl 0 rfl) ?_
  refine lv_iload_n hx hb d_PM_quiet_1 rfl (lv_at hl 1 rfl) ?_
  obtain ⟨r1, g_r1, h⟩ := ob_some h
  by_cases z_r1 : r1 = 0
  · rw [if_pos z_r1] at h
    refine cl_PM_63 (rest := []) C hfl (TE.ofS hTE hb0 hW) (hml.trans hl.1.symm) hW.1 g_r1 z_r1 ⟨Nat.le_of_ble_eq_true rfl, Nat.le_of_ble_eq_true rfl⟩ (Nat.le_of_ble_eq_true rfl) d_PM_quiet_2 ⟨Nat.zero_le _, Nat.zero_le _⟩ ?_
    refine lv_iload_n hx hb d_PM_quiet_5 rfl (lv_at hl 2 rfl) ?_
    refine lv_if_lt (tgt := 14) hx hb d_PM_quiet_6 (by decide) (fun c2 => ?_) (fun c2 => ?_)
    · rw [if_pos c2] at h
      exact tx_lnx (some_fst h) (by decide) (nw_PM_144_181 C hfl hTE (hml.trans hl.1.symm) d_PM_quiet_14 d_PM_quiet_17 d_PM_quiet_18 d_PM_quiet_20 d_PM_quiet_23 (covers_of_empty hne _) hlocks (cE_x1 (some_fst h) (by decide)) ⟨Nat.le_of_ble_eq_true rfl, Nat.le_of_ble_eq_true rfl⟩ (Nat.le_of_ble_eq_true rfl) (fun t t9 => qx_xv h (by decide) hW t9))
    · rw [if_neg c2] at h
      refine lv_iload_n hx hb d_PM_quiet_9 rfl (lv_at hl 3 rfl) ?_
      refine lv_iload_n hx hb d_PM_quiet_10 rfl (lv_at hl 2 rfl) ?_
      refine lv_icmp_ge (tgt := 24) hx hb d_PM_quiet_11 (by decide) (fun c3 => ?_) (fun c3 => ?_)
      · rw [if_pos c3] at h
        refine lv_aload_n hx hb d_PM_quiet_24 rfl (lv_at hl 0 rfl) ?_
        refine gf_PM_47 C hW.1 d_PM_quiet_25 ?_
        refine gf_PM_183 C hW.1 d_PM_quiet_28 ?_
        refine lv_bipush (v := 20) hx hb d_PM_quiet_31 (by decide) ?_
        obtain ⟨r4, g_r4, h⟩ := ob_some h
        by_cases z_r4 : r4 = 0
        · rw [if_pos z_r4] at h
          refine cl_PM_75 (rest := []) C hfl (TE.ofS hTE hb0 hW) (hml.trans hl.1.symm) hW.1 g_r4 z_r4 ⟨Nat.le_of_ble_eq_true rfl, Nat.le_of_ble_eq_true rfl⟩ (Nat.le_of_ble_eq_true rfl) d_PM_quiet_33 ⟨Nat.zero_le _, Nat.zero_le _⟩ ?_
          refine lv_aload_n hx hb d_PM_quiet_36 rfl (lv_at hl 0 rfl) ?_
          refine gf_PM_47 C hW.1 d_PM_quiet_37 ?_
          refine lv_iload_n hx hb d_PM_quiet_40 rfl (lv_at hl 1 rfl) ?_
          refine lv_iload_n hx hb d_PM_quiet_41 rfl (lv_at hl 2 rfl) ?_
          refine lv_iload_n hx hb d_PM_quiet_42 rfl (lv_at hl 3 rfl) ?_
          obtain ⟨r5, g_r5, h⟩ := ob_some h
          refine cl_PM_184 (rest := []) C hD (hml.trans hl.1.symm) hW g_r5 ⟨Nat.le_of_ble_eq_true rfl, Nat.le_of_ble_eq_true rfl⟩ (Nat.le_of_ble_eq_true rfl) d_PM_quiet_43 ⟨Nat.zero_le _, Nat.zero_le _⟩ (fun H locs hW => ?_)
          exact tx_leafx (some_fst h) (W.vret hx hb hr (fun t ht _ => qx_v h ht hW) hW.2.2.2 d_PM_quiet_46)
        · rw [if_neg z_r4] at h
          exact tx_lpx (some_fst h) (cl_PM_75_x (rest := []) C hfl (TE.ofS hTE hb0 hW) (hml.trans hl.1.symm) hW.1 g_r4 z_r4 ⟨Nat.le_of_ble_eq_true rfl, Nat.le_of_ble_eq_true rfl⟩ (Nat.le_of_ble_eq_true rfl) d_PM_quiet_33 (covers_of_empty hne _) hlocks (cE_x (some_fst h)) (fun _ _ t9 => qx_xv h z_r4 hW t9) hW.2.2.2)
      · rw [if_neg c3] at h
        exact tx_lnx (some_fst h) (by decide) (nw_PM_144_181 C hfl hTE (hml.trans hl.1.symm) d_PM_quiet_14 d_PM_quiet_17 d_PM_quiet_18 d_PM_quiet_20 d_PM_quiet_23 (covers_of_empty hne _) hlocks (cE_x1 (some_fst h) (by decide)) ⟨Nat.le_of_ble_eq_true rfl, Nat.le_of_ble_eq_true rfl⟩ (Nat.le_of_ble_eq_true rfl) (fun t t9 => qx_xv h (by decide) hW t9))
  · rw [if_neg z_r1] at h
    exact tx_lpx (some_fst h) (cl_PM_63_x (rest := []) C hfl (TE.ofS hTE hb0 hW) (hml.trans hl.1.symm) hW.1 g_r1 z_r1 ⟨Nat.le_of_ble_eq_true rfl, Nat.le_of_ble_eq_true rfl⟩ (Nat.le_of_ble_eq_true rfl) d_PM_quiet_2 (covers_of_empty hne _) hlocks (cE_x (some_fst h)) (fun _ _ t9 => qx_xv h z_r1 hW t9) hW.2.2.2)
end
