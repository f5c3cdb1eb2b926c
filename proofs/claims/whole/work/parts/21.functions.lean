def f_Places_add (σ : Sg) (x1 : Int32) (x2 : Int32) : Option (Int32 × Sg) :=
  gd (inB (σ 1 0) 24) <| lt1 (st σ 9 (Int32.toNatClampNeg (σ 1 0)) x2) fun σ1 => (f_Places_around σ1 x1).bind fun r2 => gd (inB (σ 1 0) 24) <| lt1 (st σ1 10 (Int32.toNatClampNeg (σ 1 0)) (r2 ||| (1 <<< ((σ 1 0) &&& 31)))) fun σ3 => lt1 (st σ3 1 0 ((σ 1 0) + 1)) fun σ4 => some (σ 1 0, σ4)
def f_Things_add (σ : Sg) (x1 : Int32) (x2 : Int32) (x3 : Int32) (x4 : Int32) : Option (Int32 × Sg) :=
  gd (inB (σ 2 0) 20) <| lt1 (st σ 11 (Int32.toNatClampNeg (σ 2 0)) (if (if x3 < x2 then x3 else x2) < x1 then if x3 < x2 then x3 else x2 else x1)) fun σ1 => gd (inB (σ 2 0) 20) <| lt1 (st σ1 13 (Int32.toNatClampNeg (σ 2 0)) (if x1 < (if x2 < x3 then x3 else x2) then if x2 < x3 then x3 else x2 else x1)) fun σ2 => gd (inB (σ 2 0) 20) <| gd (inB (σ 2 0) 20) <| gd (inB (σ 2 0) 20) <| lt1 (st σ2 12 (Int32.toNatClampNeg (σ 2 0)) ((((x1 + x2) + x3) - (σ2 11 (Int32.toNatClampNeg (σ 2 0)))) - (σ2 13 (Int32.toNatClampNeg (σ 2 0))))) fun σ3 => gd (inB (σ 2 0) 20) <| lt1 (st σ3 14 (Int32.toNatClampNeg (σ 2 0)) x4) fun σ4 => lt1 (st σ4 2 0 ((σ 2 0) + 1)) fun σ5 => some (σ 2 0, σ5)
def f_Rows_add (σ : Sg) (x1 : Int32) (x2 : Int32) (x3 : Int32) (x4 : Int32) : Option (Sg) :=
  gd (inB x1 20) <| (f_Rows_index σ x1 (σ 17 (Int32.toNatClampNeg x1))).bind fun r1 => gd (inB r1 800) <| lt1 (st σ 18 (Int32.toNatClampNeg r1) x2) fun σ2 => gd (inB r1 800) <| lt1 (st σ2 19 (Int32.toNatClampNeg r1) x3) fun σ3 => gd (inB r1 800) <| lt1 (st σ3 20 (Int32.toNatClampNeg r1) x4) fun σ4 => gd (inB x1 20) <| gd (inB x1 20) <| lt1 (st σ4 17 (Int32.toNatClampNeg x1) ((σ4 17 (Int32.toNatClampNeg x1)) + 1)) fun σ5 => lt1 (st σ5 3 0 ((σ5 3 0) + 1)) fun σ6 => some σ6
def B_PM_weighAt_40  (k40 : Int32 → Int32 → Sg → Option (Sg)) (x1 : Int32) (x2 : Int32) (σ : Sg) : Option (Sg) :=
  if (σ 5 0) ≤ x2 then (some σ) else ((f_Plans_covers σ x2 x1).bind fun r4 => if r4 = 0 then (k40 x1 (x2 + 1) σ) else (gd (inB x2 30) <| gd (inB (σ 25 (Int32.toNatClampNeg x2)) 20) <| gd (inB x2 30) <| (f_Places_around σ (σ 26 (Int32.toNatClampNeg x2))).bind fun r5 => gd (inB (σ 25 (Int32.toNatClampNeg x2)) 20) <| lt1 (st σ 8 (Int32.toNatClampNeg (σ 25 (Int32.toNatClampNeg x2))) ((σ 8 (Int32.toNatClampNeg (σ 25 (Int32.toNatClampNeg x2)))) ||| r5)) fun σ6 => k40 x1 (x2 + 1) σ6))
def L_PM_weighAt_40  : Nat → Int32 → Int32 → Sg → Option (Sg) := itr (B_PM_weighAt_40) (fun _ _ _ => none)
def B_PM_weighAt_2  (k2 : Int32 → Int32 → Sg → Option (Sg)) (x1 : Int32) (x2 : Int32) (σ : Sg) : Option (Sg) :=
  if (σ 2 0) ≤ x2 then (L_PM_weighAt_40 fuel x1 0 σ) else ((f_PM_placeAt σ x2 x1).bind fun r1 => (f_Places_around σ r1).bind fun r2 => gd (inB x2 20) <| lt1 (st σ 8 (Int32.toNatClampNeg x2) r2) fun σ3 => k2 x1 (x2 + 1) σ3)
def L_PM_weighAt_2  : Nat → Int32 → Int32 → Sg → Option (Sg) := itr (B_PM_weighAt_2) (fun _ _ _ => none)
def f_PM_weighAt (σ : Sg) (x1 : Int32) : Option (Sg) :=
  L_PM_weighAt_2 fuel x1 0 σ
def B_PM_loadsHoldAt_7  (k7 : Int32 → Int32 → Sg → Option (Int32 × Sg)) (x1 : Int32) (x3 : Int32) (σ : Sg) : Option (Int32 × Sg) :=
  if (σ 1 0) ≤ x3 then (some (1, σ)) else ((f_Places_liesIn σ x1 x3).bind fun r2 => if r2 = 0 then (k7 x1 (x3 + 1) σ) else ((f_PM_weightOf σ x3).bind fun r3 => gd (inB x3 24) <| if r3 ≤ (σ 9 (Int32.toNatClampNeg x3)) then (k7 x1 (x3 + 1) σ) else (some (0, σ))))
def L_PM_loadsHoldAt_7  : Nat → Int32 → Int32 → Sg → Option (Int32 × Sg) := itr (B_PM_loadsHoldAt_7) (fun _ _ _ => none)
def f_PM_loadsHoldAt (σ : Sg) (x1 : Int32) (x2 : Int32) : Option (Int32 × Sg) :=
  (f_PM_weighAt σ x2).bind fun r1 => L_PM_loadsHoldAt_7 fuel x1 0 r1
def B_PM_loadsHold_14  (k14 : Int32 → Int32 → Int32 → Int32 → Sg → Option (Int32 × Sg)) (x1 : Int32) (x2 : Int32) (x3 : Int32) (x4 : Int32) (σ : Sg) : Option (Int32 × Sg) :=
  if (σ 5 0) ≤ x4 then (some (1, σ)) else (gd (inB x4 30) <| lt1 (σ 27 (Int32.toNatClampNeg x4)) fun y2 => if y2 ≤ x2 then (k14 x1 x2 x3 (x4 + 1) σ) else (if x3 < y2 then (k14 x1 x2 x3 (x4 + 1) σ) else ((f_PM_loadsHoldAt σ x1 y2).bind fun r3 => if r3.1 = 0 then (some (0, r3.2)) else (k14 x1 x2 x3 (x4 + 1) r3.2))))
def L_PM_loadsHold_14  : Nat → Int32 → Int32 → Int32 → Int32 → Sg → Option (Int32 × Sg) := itr (B_PM_loadsHold_14) (fun _ _ _ _ _ => none)
def f_PM_loadsHold (σ : Sg) (x1 : Int32) (x2 : Int32) (x3 : Int32) : Option (Int32 × Sg) :=
  (f_PM_loadsHoldAt σ x1 x2).bind fun r1 => if r1.1 = 0 then (some (0, r1.2)) else (L_PM_loadsHold_14 fuel x1 x2 x3 0 r1.2)
def f_Rows_dropNewest (σ : Sg) (x1 : Int32) : Option (Sg) :=
  gd (inB x1 20) <| gd (inB x1 20) <| lt1 (st σ 17 (Int32.toNatClampNeg x1) ((σ 17 (Int32.toNatClampNeg x1)) - 1)) fun σ1 => lt1 (st σ1 3 0 ((σ1 3 0) - 1)) fun σ2 => some σ2
def f_PM_comesByRow (σ : Sg) (x1 : Int32) (x2 : Int32) (x3 : Int32) (x4 : Int32) : Option (Int32 × Sg) :=
  (f_Rows_add σ x1 x2 x3 x4).bind fun r1 => (f_PM_placeAt r1 x1 x2).bind fun r2 => if r2 = ((-1)) then (lt1 (st r1 0 0 x2) fun σ6 => some (1, σ6)) else ((f_PM_loadsHold r1 r2 x2 1000000).bind fun r3 => if r3.1 = 0 then ((f_Rows_dropNewest r3.2 x1).bind fun r4 => some (0, r4)) else (lt1 (st r3.2 0 0 x2) fun σ5 => some (1, σ5)))
def f_Doors_add (σ : Sg) (x1 : Int32) (x2 : Int32) (x3 : Int32) (x4 : Int32) : Option (Int32 × Sg) :=
  gd (inB (σ 4 0) 40) <| lt1 (st σ 21 (Int32.toNatClampNeg (σ 4 0)) x1) fun σ1 => gd (inB (σ 4 0) 40) <| lt1 (st σ1 22 (Int32.toNatClampNeg (σ 4 0)) x2) fun σ2 => gd (inB (σ 4 0) 40) <| lt1 (st σ2 23 (Int32.toNatClampNeg (σ 4 0)) (if x3 < x4 then x4 else x3)) fun σ3 => gd (inB (σ 4 0) 40) <| lt1 (st σ3 24 (Int32.toNatClampNeg (σ 4 0)) (if x4 < x3 then x4 else x3)) fun σ4 => lt1 (st σ4 4 0 ((σ 4 0) + 1)) fun σ5 => some (σ 4 0, σ5)
def f_Plans_add (σ : Sg) (x1 : Int32) (x2 : Int32) (x3 : Int32) (x4 : Int32) : Option (Sg) :=
  gd (inB (σ 5 0) 30) <| lt1 (st σ 25 (Int32.toNatClampNeg (σ 5 0)) x1) fun σ1 => gd (inB (σ1 5 0) 30) <| lt1 (st σ1 26 (Int32.toNatClampNeg (σ1 5 0)) x2) fun σ2 => gd (inB (σ2 5 0) 30) <| lt1 (st σ2 27 (Int32.toNatClampNeg (σ2 5 0)) x3) fun σ3 => gd (inB (σ3 5 0) 30) <| lt1 (st σ3 28 (Int32.toNatClampNeg (σ3 5 0)) x4) fun σ4 => lt1 (st σ4 5 0 ((σ4 5 0) + 1)) fun σ5 => some σ5
def f_Plans_dropNewest (σ : Sg)  : Option (Sg) :=
  lt1 (st σ 5 0 ((σ 5 0) - 1)) fun σ1 => some σ1
def f_QuietTimes_add (σ : Sg) (x1 : Int32) (x2 : Int32) (x3 : Int32) : Option (Sg) :=
  gd (inB (σ 6 0) 20) <| lt1 (st σ 29 (Int32.toNatClampNeg (σ 6 0)) x1) fun σ1 => gd (inB (σ1 6 0) 20) <| lt1 (st σ1 30 (Int32.toNatClampNeg (σ1 6 0)) x2) fun σ2 => gd (inB (σ2 6 0) 20) <| lt1 (st σ2 31 (Int32.toNatClampNeg (σ2 6 0)) x3) fun σ3 => lt1 (st σ3 6 0 ((σ3 6 0) + 1)) fun σ4 => some σ4
