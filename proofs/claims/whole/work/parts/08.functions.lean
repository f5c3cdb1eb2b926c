def f_Places_around (σ : Sg) (x1 : Int32) : Option (Int32) :=
  if x1 < 0 then (some 0) else (if x1 < (σ 1 0) then (gd (inB x1 24) <| some (σ 10 (Int32.toNatClampNeg x1))) else (some 0))
def f_Rows_index (σ : Sg) (x0 : Int32) (x1 : Int32) : Option (Int32) :=
  some ((x0 * 40) + x1)
def B_Rows_held_9 (σ : Sg)  (k9 : Int32 → Int32 → Int32 → Option (Int32)) (x1 : Int32) (x2 : Int32) (x3 : Int32) : Option (Int32) :=
  if x3 < 0 then (some ((-1))) else ((f_Rows_index σ x1 x3).bind fun r1 => gd (inB r1 800) <| if x2 < (σ 18 (Int32.toNatClampNeg r1)) then (k9 x1 x2 (x3 + (-1))) else (some r1))
def L_Rows_held_9 (σ : Sg)  : Nat → Int32 → Int32 → Int32 → Option (Int32) := itr (B_Rows_held_9 σ) (fun _ _ _ => none)
def f_Rows_held (σ : Sg) (x1 : Int32) (x2 : Int32) : Option (Int32) :=
  gd (inB x1 20) <| L_Rows_held_9 σ fuel x1 x2 ((σ 17 (Int32.toNatClampNeg x1)) - 1)
def B_PM_placeAt_5 (σ : Sg)  (k5 : Int32 → Int32 → Int32 → Option (Int32)) (x2 : Int32) (x3 : Int32) (x4 : Int32) : Option (Int32) :=
  if 20 ≤ x4 then (some ((-1))) else ((f_Rows_held σ x3 x2).bind fun r1 => if r1 = ((-1)) then (some ((-1))) else (gd (inB r1 800) <| if (σ 19 (Int32.toNatClampNeg r1)) = 2 then (some ((-1))) else (gd (inB r1 800) <| if (σ 19 (Int32.toNatClampNeg r1)) = 0 then (gd (inB r1 800) <| some (σ 20 (Int32.toNatClampNeg r1))) else (gd (inB r1 800) <| lt1 (σ 20 (Int32.toNatClampNeg r1)) fun y2 => k5 x2 y2 (x4 + 1)))))
def L_PM_placeAt_5 (σ : Sg)  : Nat → Int32 → Int32 → Int32 → Option (Int32) := itr (B_PM_placeAt_5 σ) (fun _ _ _ => none)
def f_PM_placeAt (σ : Sg) (x1 : Int32) (x2 : Int32) : Option (Int32) :=
  L_PM_placeAt_5 σ fuel x2 x1 0
def f_QuietTimes_covers (σ : Sg) (x1 : Int32) (x2 : Int32) : Option (Int32) :=
  gd (inB x1 20) <| if x2 < (σ 30 (Int32.toNatClampNeg x1)) then (some 0) else (gd (inB x1 20) <| if (σ 31 (Int32.toNatClampNeg x1)) < x2 then (some 0) else (some 1))
def f_Places_liesIn (σ : Sg) (x1 : Int32) (x2 : Int32) : Option (Int32) :=
  (f_Places_around σ x1).bind fun r1 => if ((ush r1 x2) &&& 1) = 1 then (some 1) else (some 0)
def B_PM_isBarred_3 (σ : Sg)  (k3 : Int32 → Int32 → Int32 → Int32 → Option (Int32)) (x1 : Int32) (x2 : Int32) (x3 : Int32) (x4 : Int32) : Option (Int32) :=
  if (σ 6 0) ≤ x4 then (some 0) else (gd (inB x4 20) <| lt1 (σ 29 (Int32.toNatClampNeg x4)) fun y1 => (f_QuietTimes_covers σ x4 x3).bind fun r2 => if r2 = 0 then (k3 x1 x2 x3 (x4 + 1)) else ((f_Places_liesIn σ x1 y1).bind fun r3 => (f_Places_liesIn σ x2 y1).bind fun r4 => if r3 = r4 then (k3 x1 x2 x3 (x4 + 1)) else (some 1)))
def L_PM_isBarred_3 (σ : Sg)  : Nat → Int32 → Int32 → Int32 → Int32 → Option (Int32) := itr (B_PM_isBarred_3 σ) (fun _ _ _ _ => none)
def f_PM_isBarred (σ : Sg) (x1 : Int32) (x2 : Int32) (x3 : Int32) : Option (Int32) :=
  L_PM_isBarred_3 σ fuel x1 x2 x3 0
def f_Plans_covers (σ : Sg) (x1 : Int32) (x2 : Int32) : Option (Int32) :=
  gd (inB x1 30) <| if x2 < (σ 27 (Int32.toNatClampNeg x1)) then (some 0) else (gd (inB x1 30) <| if (σ 28 (Int32.toNatClampNeg x1)) < x2 then (some 0) else (some 1))
def B_PM_weightOf_4 (σ : Sg)  (k4 : Int32 → Int32 → Int32 → Option (Int32)) (x1 : Int32) (x2 : Int32) (x3 : Int32) : Option (Int32) :=
  if (σ 2 0) ≤ x3 then (some x2) else (gd (inB x3 20) <| if ((ush (σ 8 (Int32.toNatClampNeg x3)) x1) &&& 1) = 1 then (gd (inB x3 20) <| lt1 (x2 + (σ 14 (Int32.toNatClampNeg x3))) fun y1 => k4 x1 y1 (x3 + 1)) else (k4 x1 x2 (x3 + 1)))
def L_PM_weightOf_4 (σ : Sg)  : Nat → Int32 → Int32 → Int32 → Option (Int32) := itr (B_PM_weightOf_4 σ) (fun _ _ _ => none)
def f_PM_weightOf (σ : Sg) (x1 : Int32) : Option (Int32) :=
  L_PM_weightOf_4 σ fuel x1 0 0
def B_PM_isWithin_6 (σ : Sg)  (k6 : Int32 → Int32 → Int32 → Int32 → Option (Int32)) (x2 : Int32) (x3 : Int32) (x4 : Int32) (x5 : Int32) : Option (Int32) :=
  if 20 ≤ x5 then (some 0) else ((f_Rows_held σ x4 x3).bind fun r1 => if r1 = ((-1)) then (some 0) else (gd (inB r1 800) <| if (σ 19 (Int32.toNatClampNeg r1)) = 1 then (gd (inB r1 800) <| lt1 (σ 20 (Int32.toNatClampNeg r1)) fun y2 => if y2 = x2 then (some 1) else (k6 x2 x3 y2 (x5 + 1))) else (some 0)))
def L_PM_isWithin_6 (σ : Sg)  : Nat → Int32 → Int32 → Int32 → Int32 → Option (Int32) := itr (B_PM_isWithin_6 σ) (fun _ _ _ _ => none)
def f_PM_isWithin (σ : Sg) (x1 : Int32) (x2 : Int32) (x3 : Int32) : Option (Int32) :=
  L_PM_isWithin_6 σ fuel x2 x3 x1 0
def f_Things_isSmaller (σ : Sg) (x1 : Int32) (x2 : Int32) : Option (Int32) :=
  gd (inB x1 20) <| gd (inB x2 20) <| if (σ 11 (Int32.toNatClampNeg x2)) ≤ (σ 11 (Int32.toNatClampNeg x1)) then (some 0) else (gd (inB x1 20) <| gd (inB x2 20) <| if (σ 12 (Int32.toNatClampNeg x2)) ≤ (σ 12 (Int32.toNatClampNeg x1)) then (some 0) else (gd (inB x1 20) <| gd (inB x2 20) <| if (σ 13 (Int32.toNatClampNeg x2)) ≤ (σ 13 (Int32.toNatClampNeg x1)) then (some 0) else (some 1)))
def B_PM_standsSince_8 (σ : Sg)  (k8 : Int32 → Int32 → Int32 → Int32 → Option (Int32)) (x2 : Int32) (x3 : Int32) (x4 : Int32) (x5 : Int32) : Option (Int32) :=
  if 20 ≤ x5 then (some x3) else ((f_Rows_held σ x4 x2).bind fun r1 => if r1 = ((-1)) then (some x3) else (gd (inB r1 800) <| lt1 (if x3 < (σ 18 (Int32.toNatClampNeg r1)) then σ 18 (Int32.toNatClampNeg r1) else x3) fun y2 => gd (inB r1 800) <| if (σ 19 (Int32.toNatClampNeg r1)) = 1 then (gd (inB r1 800) <| lt1 (σ 20 (Int32.toNatClampNeg r1)) fun y3 => k8 x2 y2 y3 (x5 + 1)) else (some y2)))
def L_PM_standsSince_8 (σ : Sg)  : Nat → Int32 → Int32 → Int32 → Int32 → Option (Int32) := itr (B_PM_standsSince_8 σ) (fun _ _ _ _ => none)
def f_PM_standsSince (σ : Sg) (x1 : Int32) (x2 : Int32) : Option (Int32) :=
  L_PM_standsSince_8 σ fuel x2 ((-1)) x1 0
def f_Doors_goesTurned (σ : Sg) (x0 : Int64) (x2 : Int64) (x4 : Int64) (x6 : Int64) : Option (Int32) :=
  lt1 ((x0 + x2) * (x4 - x6)) fun y1 => lt1 ((x0 - x2) * (x4 + x6)) fun y2 => lt1 ((x4 * x4) - (x6 * x6)) fun y3 => if (lg_cmp ((y1 * y1) + (y2 * y2)) ((2 * y3) * y3)) < 0 then (some 0) else (some 1)
def f_Doors_letsThrough (σ : Sg) (x1 : Int32) (x2 : Int32) (x3 : Int32) : Option (Int32) :=
  gd (inB x1 40) <| if x3 ≤ (σ 24 (Int32.toNatClampNeg x1)) then (gd (inB x1 40) <| if x2 ≤ (σ 23 (Int32.toNatClampNeg x1)) then (some 1) else (gd (inB x1 40) <| gd (inB x1 40) <| (f_Doors_goesTurned σ (Int32.toInt64 (σ 23 (Int32.toNatClampNeg x1))) (Int32.toInt64 (σ 24 (Int32.toNatClampNeg x1))) (Int32.toInt64 x2) (Int32.toInt64 x3)).bind fun r1 => if r1 = 0 then (some 0) else (some 1))) else (some 0)
def f_PM_fits (σ : Sg) (x1 : Int32) (x2 : Int32) : Option (Int32) :=
  gd (inB x1 20) <| lt1 (σ 11 (Int32.toNatClampNeg x1)) fun y1 => gd (inB x1 20) <| lt1 (σ 12 (Int32.toNatClampNeg x1)) fun y2 => gd (inB x1 20) <| lt1 (σ 13 (Int32.toNatClampNeg x1)) fun y3 => (f_Doors_letsThrough σ x2 y2 y1).bind fun r4 => if r4 = 0 then ((f_Doors_letsThrough σ x2 y3 y1).bind fun r5 => if r5 = 0 then ((f_Doors_letsThrough σ x2 y3 y2).bind fun r6 => if r6 = 0 then (some 0) else (some 1)) else (some 1)) else (some 1)
def B_PM_fittingDoors_5 (σ : Sg)  (k5 : Int32 → Int64 → Int32 → Option (Int64)) (x1 : Int32) (x2 : Int64) (x4 : Int32) : Option (Int64) :=
  if (σ 4 0) ≤ x4 then (some x2) else ((f_PM_fits σ x1 x4).bind fun r1 => if r1 = 0 then (k5 x1 x2 (x4 + 1)) else (lt1 (x2 ||| (1 <<< (Int32.toInt64 x4 &&& 63))) fun y2 => k5 x1 y2 (x4 + 1)))
def L_PM_fittingDoors_5 (σ : Sg)  : Nat → Int32 → Int64 → Int32 → Option (Int64) := itr (B_PM_fittingDoors_5 σ) (fun _ _ _ => none)
def f_PM_fittingDoors (σ : Sg) (x1 : Int32) : Option (Int64) :=
  L_PM_fittingDoors_5 σ fuel x1 0 0
def B_Doors_spread_6 (σ : Sg)  (k6 : Int32 → Int64 → Int32 → Int32 → Option (Int32)) (x1 : Int32) (x2 : Int64) (x4 : Int32) (x5 : Int32) : Option (Int32) :=
  if (σ 4 0) ≤ x5 then (some x4) else (gd (inB x5 40) <| gd (inB x5 40) <| lt1 ((1 <<< ((σ 21 (Int32.toNatClampNeg x5)) &&& 31)) ||| (1 <<< ((σ 22 (Int32.toNatClampNeg x5)) &&& 31))) fun y1 => if (lg_cmp ((lush x2 x5) &&& 1) 1) = 0 then (if (x1 &&& y1) = 0 then (k6 x1 x2 x4 (x5 + 1)) else (k6 x1 x2 (x4 ||| y1) (x5 + 1))) else (k6 x1 x2 x4 (x5 + 1)))
def L_Doors_spread_6 (σ : Sg)  : Nat → Int32 → Int64 → Int32 → Int32 → Option (Int32) := itr (B_Doors_spread_6 σ) (fun _ _ _ _ => none)
def f_Doors_spread (σ : Sg) (x1 : Int32) (x2 : Int64) : Option (Int32) :=
  L_Doors_spread_6 σ fuel x1 x2 x1 0
def B_PM_doorsBetween_8 (σ : Sg)  (k8 : Int32 → Int64 → Int32 → Int32 → Option (Int32)) (x2 : Int32) (x3 : Int64) (x5 : Int32) (x6 : Int32) : Option (Int32) :=
  if 24 ≤ x6 then (some ((-1))) else (if ((ush x5 x2) &&& 1) = 1 then (some x6) else ((f_Doors_spread σ x5 x3).bind fun r2 => if r2 = x5 then (some ((-1))) else (k8 x2 x3 r2 (x6 + 1))))
def L_PM_doorsBetween_8 (σ : Sg)  : Nat → Int32 → Int64 → Int32 → Int32 → Option (Int32) := itr (B_PM_doorsBetween_8 σ) (fun _ _ _ _ => none)
def f_PM_doorsBetween (σ : Sg) (x1 : Int32) (x2 : Int32) (x3 : Int64) : Option (Int32) :=
  lt1 (1 <<< (x1 &&& 31)) fun y1 => L_PM_doorsBetween_8 σ fuel x2 x3 y1 0
