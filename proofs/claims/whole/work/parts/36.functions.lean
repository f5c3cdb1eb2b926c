def f_PM_needKnown (σ : Sg) (x0 : Int32) (x1 : Int32) : Option (Nat) :=
  if x0 < 0 then (some 1) else (if x0 < x1 then (some 0) else (some 1))
def f_PM_needPlace (σ : Sg) (x1 : Int32) : Option (Nat) :=
  (f_PM_needKnown σ x1 (σ 1 0)).bind fun r1 => if r1 = 0 then (some 0) else some r1
def f_PM_needRange (σ : Sg) (x0 : Int32) (x1 : Int32) (x2 : Int32) : Option (Nat) :=
  if x0 < x1 then (some 2) else (if x0 ≤ x2 then (some 0) else (some 2))
def f_PM_needRoom (σ : Sg) (x0 : Int32) (x1 : Int32) : Option (Nat) :=
  if x0 < x1 then (some 0) else (some 3)
def f_PM_needObject (σ : Sg) (x1 : Int32) : Option (Nat) :=
  (f_PM_needKnown σ x1 (σ 2 0)).bind fun r1 => if r1 = 0 then (some 0) else some r1
def f_PM_needPerson (σ : Sg) (x1 : Int32) : Option (Nat) :=
  (f_PM_needKnown σ x1 10).bind fun r1 => if r1 = 0 then (some 0) else some r1
def C_PM_needKeysOf_31 (σ : Sg)  (x2 : Int32) (x3 : Int32) (x4 : Int32) : Option (Nat) :=
  if x4 = 2 then (gd (inB x2 10) <| if (σ 7 (Int32.toNatClampNeg x2)) = 0 then (if ((0 : Int32)) = 0 then (some 3) else (some 0)) else (gd (inB x3 10) <| if (σ 7 (Int32.toNatClampNeg x3)) = 0 then (if ((0 : Int32)) = 0 then (some 3) else (some 0)) else (if x2 = x3 then (if ((0 : Int32)) = 0 then (some 3) else (some 0)) else (if ((1 : Int32)) = 0 then (some 3) else (some 0))))) else (if ((0 : Int32)) = 0 then (some 3) else (some 0))
def f_PM_needKeysOf (σ : Sg) (x1 : Int32) (x2 : Int32) (x3 : Int32) : Option (Nat) :=
  gd (inB x1 20) <| lt1 (σ 15 (Int32.toNatClampNeg x1)) fun y1 => if y1 = 0 then (if ((1 : Int32)) = 0 then (some 3) else (some 0)) else (if y1 = 1 then (gd (inB x2 10) <| if (σ 7 (Int32.toNatClampNeg x2)) = 0 then (C_PM_needKeysOf_31 σ x2 x3 y1) else (if ((1 : Int32)) = 0 then (some 3) else (some 0))) else (C_PM_needKeysOf_31 σ x2 x3 y1))
def f_PM_where (σ : Sg) (x1 : Int32) (x2 : Int32) : Option (Nat × Int32) :=
  (f_PM_needObject σ x1).bind fun r1 => if r1 = 0 then ((f_PM_placeAt σ x1 x2).bind fun r2 => some (0, r2)) else some (r1, 0)
def B_PM_last_12 (σ : Sg)  (k12 : Int32 → Int32 → Int32 → Option (Nat × Int32)) (x1 : Int32) (x2 : Int32) (x3 : Int32) : Option (Nat × Int32) :=
  if 800 < x3 then (some (0, (-1))) else (if x2 < 0 then (some (0, (-1))) else ((f_PM_placeAt σ x1 x2).bind fun r2 => if r2 = ((-1)) then ((f_PM_standsSince σ x1 x2).bind fun r3 => k12 x1 (r3 - 1) (x3 + 1)) else (some (0, r2))))
def L_PM_last_12 (σ : Sg)  : Nat → Int32 → Int32 → Int32 → Option (Nat × Int32) := itr (B_PM_last_12 σ) (fun _ _ _ => none)
def f_PM_last (σ : Sg) (x1 : Int32) : Option (Nat × Int32) :=
  (f_PM_needObject σ x1).bind fun r1 => if r1 = 0 then (L_PM_last_12 σ fuel x1 (σ 0 0) 0) else some (r1, 0)
def f_PM_history (σ : Sg) (x1 : Int32) (x2 : Int32) (x3 : Int32) : Option (Nat × Int32) :=
  (f_PM_needObject σ x1).bind fun r1 => if r1 = 0 then (gd (inB x1 20) <| (f_PM_needKnown σ x2 (σ 17 (Int32.toNatClampNeg x1))).bind fun r2 => if r2 = 0 then ((f_PM_needRange σ x3 0 2).bind fun r3 => if r3 = 0 then ((f_Rows_index σ x1 x2).bind fun r4 => if x3 = 0 then (gd (inB r4 800) <| some (0, σ 18 (Int32.toNatClampNeg r4))) else (if x3 = 1 then (gd (inB r4 800) <| some (0, σ 19 (Int32.toNatClampNeg r4))) else (gd (inB r4 800) <| some (0, σ 20 (Int32.toNatClampNeg r4))))) else some (r3, 0)) else some (r2, 0)) else some (r1, 0)
def f_PM_passes (σ : Sg) (x1 : Int32) (x2 : Int32) : Option (Nat × Int32) :=
  (f_PM_needObject σ x1).bind fun r1 => if r1 = 0 then ((f_PM_needKnown σ x2 (σ 4 0)).bind fun r2 => if r2 = 0 then ((f_PM_fits σ x1 x2).bind fun r3 => gd (isB r3) <| some (0, r3)) else some (r2, 0)) else some (r1, 0)
def f_PM_way (σ : Sg) (x1 : Int32) (x2 : Int32) : Option (Nat × Int32) :=
  (f_PM_needObject σ x1).bind fun r1 => if r1 = 0 then ((f_PM_needPlace σ x2).bind fun r2 => if r2 = 0 then ((f_PM_placeAt σ x1 (σ 0 0)).bind fun r3 => if r3 = ((-1)) then (some (0, (-1))) else ((f_PM_fittingDoors σ x1).bind fun r4 => (f_PM_doorsBetween σ r3 x2 r4).bind fun r5 => some (0, r5))) else some (r2, 0)) else some (r1, 0)
def f_PM_count (σ : Sg) (x1 : Int32) : Option (Nat × Int32) :=
  (if x1 = 0 then (some (0, σ 1 0)) else (if x1 = 1 then (some (0, σ 2 0)) else (if x1 = 2 then (some (0, σ 4 0)) else (if x1 = 3 then (some (0, σ 5 0)) else (if x1 = 4 then (some (0, σ 0 0)) else (if x1 = 5 then (some (0, σ 3 0)) else (some (2, 0))))))))
